public final class Promise14ClashTest {
    public static void main(String[] args) {
        Check.that("Two different routes CLASH (none with itself)", Promise14ClashTest::neverWithItself);
        Check.that("when they have the same signal", Promise14ClashTest::sameSignal);
        Check.that("or both pass some section", Promise14ClashTest::bothPass);
        Check.that("or use some points in different positions.", Promise14ClashTest::differentPositions);
        Check.that("Whether two routes clash. (one after the other or turned round)", Promise14ClashTest::turnedRound);
        Check.that("Whether two routes clash. (without uses)", Promise14ClashTest::withoutUses);
        Check.that("Whether two routes clash. (by the last of 6 uses)", Promise14ClashTest::byTheLastUse);
        Check.that("Whether two routes clash. (whatever their state)", Promise14ClashTest::whateverTheirState);
        Check.that("Whether two routes clash. (asking changes nothing)", Promise14ClashTest::askingChangesNothing);
        Check.that("IndexOutOfBoundsException when there are no such routes.", Promise14ClashTest::noSuchRoutes);
        Check.end();
    }

    private static void neverWithItself() {
        RouteFrame frame = Layout.full();
        for (int r = 0; r < 8; r++) {
            Check.is("clash(" + r + ", " + r + ")", frame.clash(r, r), false);
        }
    }

    private static void sameSignal() {
        for (int signal = 0; signal <= 5; signal++) {
            RouteFrame frame = Layout.plainSections(3);
            for (int r = 0; r < 3; r++) {
                frame.route(r < 2 ? signal : (signal + 1) % 6, Layout.NONE, 1);
                frame.use(r, r, 0);
            }
            Check.is("the same signal " + signal, frame.clash(0, 1), true);
            Check.is("other signals", frame.clash(0, 2), false);
        }
    }

    private static void bothPass() {
        RouteFrame plain = Layout.plainSections(3);
        for (int r = 0; r < 3; r++) {
            plain.route(r, Layout.NONE, 1);
        }
        plain.use(0, 0, 0);
        plain.use(0, 1, 0);
        plain.use(1, 1, 0);
        plain.use(2, 2, 0);
        Check.is("both pass 1", plain.clash(0, 1), true);
        Check.is("they pass others", plain.clash(0, 2), false);
        Check.is("points passed in 0 by both", overPoints(1, 1).clash(0, 1), true);
        Check.is("points passed in 1 by both", overPoints(2, 2).clash(0, 1), true);
        Check.is("a pass and a flank in 0", overPoints(1, 3).clash(0, 1), false);
        Check.is("a pass and a flank in 1", overPoints(2, 4).clash(0, 1), false);
        Check.is("two flanks in 0", overPoints(3, 3).clash(0, 1), false);
        Check.is("two flanks in 1", overPoints(4, 4).clash(0, 1), false);
    }

    private static void differentPositions() {
        int[][] hows = {{1, 2}, {1, 4}, {3, 2}, {3, 4}, {2, 1}, {4, 1}, {2, 3}, {4, 3}};
        for (int[] both : hows) {
            Check.is("points as " + both[0] + " and " + both[1], overPoints(both[0], both[1]).clash(0, 1), true);
        }
    }

    /** Two routes of signals 0 and 1 that use the same points so and pass nothing else in common. */
    private static RouteFrame overPoints(int how, int otherHow) {
        RouteFrame frame = Layout.sections(true, false, false);
        frame.route(0, Layout.NONE, 1);
        frame.use(0, 1, 0);
        frame.use(0, 0, how);
        frame.route(1, 1, 1);
        frame.use(1, 0, otherHow);
        frame.use(1, 2, 0);
        return frame;
    }

    private static void turnedRound() {
        for (int one = 1; one <= 4; one++) {
            for (int two = 1; two <= 4; two++) {
                RouteFrame frame = overPoints(one, two);
                Check.is("as " + one + " and " + two, frame.clash(1, 0), frame.clash(0, 1));
            }
        }
    }

    private static void withoutUses() {
        RouteFrame frame = new RouteFrame();
        frame.route(2, Layout.NONE, 1);
        frame.route(2, Layout.NONE, 9);
        frame.route(3, Layout.NONE, 1);
        Check.is("the same signal", frame.clash(0, 1), true);
        Check.is("other signals", frame.clash(0, 2), false);
    }

    private static void byTheLastUse() {
        RouteFrame frame = Layout.plainSections(12);
        frame.route(0, Layout.NONE, 1);
        frame.route(1, Layout.NONE, 1);
        for (int s = 0; s < 5; s++) {
            frame.use(0, s, 0);
            frame.use(1, s + 5, 0);
        }
        Check.is("five uses each", frame.clash(0, 1), false);
        frame.use(0, 11, 0);
        frame.use(1, 11, 0);
        Check.is("the sixth in common", frame.clash(0, 1), true);
        Check.is("turned round", frame.clash(1, 0), true);
    }

    private static void whateverTheirState() {
        RouteFrame frame = Layout.junction();
        Check.is("both are free", frame.clash(0, 1), true);
        frame.request(0);
        Check.is("one is set", frame.clash(0, 1), true);
        frame.occupy(1);
        frame.occupy(2);
        frame.vacate(1);
        Check.is("one has let go of what they share", frame.clash(0, 1), true);
    }

    private static void noSuchRoutes() {
        for (int none : Outside.of(0, 1)) {
            RouteFrame frame = Layout.junction();
            Check.refusesIndex("clash(0, " + none + ")", frame, () -> frame.clash(0, none));
            Check.raisesIndex("clash(" + none + ", 0)", () -> frame.clash(none, 0));
            Check.raisesIndex("clash of " + none + " with itself", () -> frame.clash(none, none));
        }
        RouteFrame full = Layout.full();
        for (int none : Outside.of(0, 7)) {
            Check.raisesIndex("clash(7, " + none + ") of 8", () -> full.clash(7, none));
            Check.raisesIndex("clash(" + none + ", 7) of 8", () -> full.clash(none, 7));
        }
        Check.is("the last of 8", full.clash(7, 1), true);
    }

    private static void askingChangesNothing() {
        Life.ofABusyFrameIsNotChangedBy("clash(0, 4)", frame -> frame.clash(0, 4));
        Life.ofABusyFrameIsNotChangedBy("clash(1, 7)", frame -> frame.clash(1, 7));
    }
}
