public final class Promise05UseTest {
    public static void main(String[] args) {
        Check.that("A route gets another use.", Promise05UseTest::usesInTheirOrder);
        Check.that("A route gets another use. (and no other route)", Promise05UseTest::onlyThatRoute);
        Check.that("IndexOutOfBoundsException when there is no such route", Promise05UseTest::noSuchRoute);
        Check.that("IndexOutOfBoundsException when there is no such section", Promise05UseTest::noSuchSection);
        Check.that("IllegalArgumentException when how is none of 0 .. 4", Promise05UseTest::wrongHow);
        Check.that("does not fit the section (0 with points", Promise05UseTest::zeroWithPoints);
        Check.that("does not fit the section (.. another one without)", Promise05UseTest::anotherWithoutPoints);
        Check.that("or the route uses it already", Promise05UseTest::theSameSectionAgain);
        Check.that("or the route uses it already (another route may)", Promise05UseTest::anotherRouteMay);
        Check.that("IllegalStateException when it has 6 uses", Promise05UseTest::atMostSix);
        Check.that("IllegalStateException when it has 6 uses (another may have them too)", Promise05UseTest::sixEach);
        Check.that("or any route is not free. (SET)", Promise05UseTest::oneIsSet);
        Check.that("or any route is not free. (TAKEN)", Promise05UseTest::oneIsTaken);
        Check.that("or any route is not free. (TIMED)", Promise05UseTest::oneIsTimed);
        Check.that("or any route is not free. (the first or the last of 8)", Promise05UseTest::anyOfEight);
        Check.that("or any route is not free. (all are free again)", Promise05UseTest::allAreFreeAgain);
        Check.end();
    }

    private static void usesInTheirOrder() {
        RouteFrame frame = Layout.sections(true, true, false, true, true);
        frame.route(0, Layout.NONE, 1);
        frame.use(0, 3, 4);
        frame.use(0, 2, 0);
        frame.use(0, 0, 2);
        frame.use(0, 4, 3);
        frame.use(0, 1, 1);
        Check.is("request", frame.request(0), 0);
        Check.is("held", frame.about(0, Layout.HELD), 31);
        int[] wanted = {1, 0, 0, 1, 0};
        int[] passHolder = {0, 0, 0, Layout.NONE, Layout.NONE};
        int[] flankHolders = {0, 0, 0, 1, 1};
        for (int s = 0; s < 5; s++) {
            Check.is("wanted of " + s, frame.track(s, Layout.WANTED), wanted[s]);
            Check.is("pass of " + s, frame.track(s, Layout.PASS_HOLDER), passHolder[s]);
            Check.is("flank of " + s, frame.track(s, Layout.FLANK_HOLDERS), flankHolders[s]);
        }
        frame.occupy(0);
        Check.is("the third use is run over", frame.about(0, Layout.RUN_OVER), 4);
    }

    private static void onlyThatRoute() {
        RouteFrame frame = Layout.plainSections(2);
        frame.route(0, Layout.NONE, 1);
        frame.route(1, Layout.NONE, 1);
        frame.route(2, Layout.NONE, 1);
        frame.use(1, 0, 0);
        Check.is("the one before has none", frame.request(0), 1);
        Check.is("the one behind has none", frame.request(2), 1);
        Check.is("the one has one", frame.request(1), 0);
    }

    private static void noSuchRoute() {
        for (int none : Outside.of(0, 1)) {
            RouteFrame frame = Layout.junction();
            Check.refusesIndex("use by route " + none, frame, () -> frame.use(none, 3, 0));
        }
        for (int none : Outside.of(0, 7)) {
            RouteFrame frame = Layout.full();
            Check.raisesIndex("use by route " + none + " of 8", () -> frame.use(none, 0, 0));
        }
    }

    private static void noSuchSection() {
        for (int none : Outside.of(0, 4)) {
            RouteFrame frame = Layout.junction();
            Check.refusesIndex("use of section " + none, frame, () -> frame.use(0, none, 0));
            Check.raisesIndex("use of points " + none, () -> frame.use(0, none, 1));
        }
        for (int none : Outside.of(0, 11)) {
            RouteFrame frame = Layout.full();
            Check.raisesIndex("use of section " + none + " of 12", () -> frame.use(6, none, 0));
        }
    }

    private static void wrongHow() {
        for (int how : Outside.of(0, 4)) {
            for (int section = 1; section <= 2; section++) {
                int used = section;
                RouteFrame frame = oneUse();
                Check.refusesArgument("how " + how + " of " + section, frame, () -> frame.use(0, used, how));
                frame.request(0);
                Check.is("uses after how " + how, frame.about(0, Layout.HELD), 1);
            }
        }
    }

    private static void zeroWithPoints() {
        RouteFrame frame = oneUse();
        Check.refusesArgument("how 0 with points", frame, () -> frame.use(0, 1, 0));
        for (int how = 1; how <= 4; how++) {
            RouteFrame other = oneUse();
            other.use(0, 1, how);
            Check.is("request with how " + how, other.request(0), 0);
            Check.is("held with how " + how, other.about(0, Layout.HELD), 3);
        }
        frame.request(0);
        Check.is("uses after how 0", frame.about(0, Layout.HELD), 1);
    }

    private static void anotherWithoutPoints() {
        for (int how = 1; how <= 4; how++) {
            int wrong = how;
            RouteFrame frame = oneUse();
            Check.refusesArgument("how " + how + " without points", frame, () -> frame.use(0, 2, wrong));
            frame.use(0, 2, 0);
            frame.request(0);
            Check.is("uses after how " + how + " and 0", frame.about(0, Layout.HELD), 3);
        }
    }

    private static void theSameSectionAgain() {
        RouteFrame plain = oneUse();
        Check.refusesArgument("the same section again", plain, () -> plain.use(0, 0, 0));
        plain.request(0);
        Check.is("uses after a section again", plain.about(0, Layout.HELD), 1);
        for (int first = 1; first <= 4; first++) {
            for (int how = 1; how <= 4; how++) {
                int again = how;
                RouteFrame frame = oneUse();
                frame.use(0, 1, first);
                frame.use(0, 2, 0);
                Check.refusesArgument("points again as " + how, frame, () -> frame.use(0, 1, again));
                frame.request(0);
                Check.is("uses after points again", frame.about(0, Layout.HELD), 7);
                Check.is("wanted as first said", frame.track(1, Layout.WANTED), (first - 1) % 2);
                Check.is("held as first said", frame.track(1, Layout.FLANK_HOLDERS), first <= 2 ? 0 : 1);
            }
        }
        for (int s = 0; s < 5; s++) {
            int again = s;
            RouteFrame frame = Layout.plainSections(5);
            frame.route(0, Layout.NONE, 1);
            for (int k = 0; k < 5; k++) {
                frame.use(0, k, 0);
            }
            Check.refusesArgument("use " + s + " of 5 again", frame, () -> frame.use(0, again, 0));
        }
    }

    private static void anotherRouteMay() {
        RouteFrame frame = oneUse();
        frame.route(1, Layout.NONE, 1);
        frame.use(1, 0, 0);
        Check.is("request of another route with that use", frame.request(1), 0);
    }

    /** Sections 0 (plain, passed by route 0), 1 (points), 2 (plain). */
    private static RouteFrame oneUse() {
        RouteFrame frame = Layout.sections(false, true, false);
        frame.route(0, Layout.NONE, 1);
        frame.use(0, 0, 0);
        return frame;
    }

    private static void atMostSix() {
        RouteFrame frame = Layout.sixUses();
        Check.refusesState("a 7th use", frame, () -> frame.use(0, 6, 1));
        Check.is("request", frame.request(0), 0);
        Check.is("six uses are held", frame.about(0, Layout.HELD), 63);
        Check.is("the 7th section is not passed", frame.track(6, Layout.PASS_HOLDER), Layout.NONE);
    }

    private static void sixEach() {
        RouteFrame frame = Layout.plainSections(7);
        for (int r = 0; r < 8; r++) {
            int route = r;
            frame.route(r % 6, Layout.NONE, 1);
            for (int s = 0; s < 6; s++) {
                frame.use(r, s, 0);
            }
            Check.raisesState("a 7th use of " + r, () -> frame.use(route, 6, 0));
        }
        Check.is("request of the last", frame.request(7), 0);
        Check.is("held by the last", frame.about(7, Layout.HELD), 63);
    }

    private static void oneIsSet() {
        RouteFrame frame = Layout.oneEach(2);
        frame.section(false);
        frame.request(0);
        Check.refusesState("use by another", frame, () -> frame.use(1, 2, 0));
        Check.refusesState("use by the set one", frame, () -> frame.use(0, 2, 0));
    }

    private static void oneIsTaken() {
        RouteFrame frame = Layout.oneEach(2);
        frame.section(false);
        frame.request(0);
        frame.occupy(0);
        Check.refusesState("use by another", frame, () -> frame.use(1, 2, 0));
        Check.refusesState("use by the taken one", frame, () -> frame.use(0, 2, 0));
    }

    private static void oneIsTimed() {
        RouteFrame frame = Layout.oneEach(2);
        frame.section(false);
        frame.request(0);
        frame.cancel(0);
        Check.is("timed", frame.about(0, Layout.STATE), Layout.TIMED);
        Check.refusesState("use by another", frame, () -> frame.use(1, 2, 0));
        Check.refusesState("use by the timed one", frame, () -> frame.use(0, 2, 0));
    }

    private static void anyOfEight() {
        for (int busy : new int[] {0, 7}) {
            RouteFrame frame = Layout.full();
            frame.request(busy);
            Check.refusesState("use while " + busy + " is set", frame, () -> frame.use(6, 1, 0));
        }
    }

    private static void allAreFreeAgain() {
        RouteFrame frame = Layout.oneEach(3);
        frame.section(false);
        frame.request(0);
        frame.request(1);
        frame.cancel(1);
        frame.occupy(0);
        frame.vacate(0);
        Check.raisesState("while one is still timed", () -> frame.use(2, 3, 0));
        frame.tick(4);
        Check.raisesState("before its last tick", () -> frame.use(2, 3, 0));
        frame.tick(1);
        frame.use(2, 3, 0);
        frame.request(2);
        Check.is("held with the use made then", frame.about(2, Layout.HELD), 3);
    }
}
