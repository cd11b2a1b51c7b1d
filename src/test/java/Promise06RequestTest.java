public final class Promise06RequestTest {
    public static void main(String[] args) {
        Check.that("Sets a route", Promise06RequestTest::sets);
        Check.that("and wants all points that it uses in the positions for it.", Promise06RequestTest::wants);
        Check.that("wants .. (points that lie there already)", Promise06RequestTest::pointsThatLieThereStay);
        Check.that("wants .. (points that are on the way there)", Promise06RequestTest::pointsOnTheWayGoOn);
        Check.that("refused .. with 1 when it is not free (SET)", Promise06RequestTest::oneWhenSet);
        Check.that("refused .. with 1 when it is not free (TAKEN)", Promise06RequestTest::oneWhenTaken);
        Check.that("refused .. with 1 when it is not free (TIMED)", Promise06RequestTest::oneWhenTimed);
        Check.that("or has no pass (no use at all)", Promise06RequestTest::oneWithoutUses);
        Check.that("or has no pass (flanks alone)", Promise06RequestTest::oneWithFlanksAlone);
        Check.that("2 when another route that has the same signal is SET", Promise06RequestTest::twoForASetSignal);
        Check.that("2 when another route that has the same signal is .. TIMED",
                Promise06RequestTest::twoForATimedSignal);
        Check.that("2 when another route that has the same signal is .. (not TAKEN)",
                Promise06RequestTest::notForATakenSignal);
        Check.that("or another one holds a pass of a section that it passes", Promise06RequestTest::twoForAPass);
        Check.that("or another one holds a pass .. (SET, TIMED, TAKEN)", Promise06RequestTest::twoWhileItIsHeld);
        Check.that("or another one holds a pass .. (let go)", Promise06RequestTest::whatWasLetGoIsNoHindrance);
        Check.that("or a use of points that it uses in another position", Promise06RequestTest::twoForPoints);
        Check.that("or a use of points .. (in the same position)", Promise06RequestTest::samePositionIsNoHindrance);
        Check.that("another one (any of 8)", Promise06RequestTest::anotherOneOfEight);
        Check.that("3 when a section that it passes is occupied", Promise06RequestTest::threeWhenOccupied);
        Check.that("3 when a section that it passes .. (not a flank, not the approach)",
                Promise06RequestTest::notForOtherSections);
        Check.that("4 when points that it uses are wanted otherwise and occupied.",
                Promise06RequestTest::fourWhenPointsCannotMove);
        Check.that("4 when .. wanted otherwise and occupied (not one alone)", Promise06RequestTest::notForOneAlone);
        Check.that("in this order (1 before 2)", Promise06RequestTest::oneBeforeTwo);
        Check.that("in this order (1 before 3)", Promise06RequestTest::oneBeforeThree);
        Check.that("in this order (1 before 4)", Promise06RequestTest::oneBeforeFour);
        Check.that("in this order (2 before 3)", Promise06RequestTest::twoBeforeThree);
        Check.that("in this order (2 before 4)", Promise06RequestTest::twoBeforeFour);
        Check.that("in this order (3 before 4)", Promise06RequestTest::threeBeforeFour);
        Check.that("refused (it changes nothing)", Promise06RequestTest::refusedChangesNothing);
        Check.that("IndexOutOfBoundsException when there is no such route.", Promise06RequestTest::noSuchRoute);
        Check.end();
    }

    private static void sets() {
        RouteFrame frame = Layout.junction();
        Check.is("request(0)", frame.request(0), 0);
        Check.is("state", frame.about(0, Layout.STATE), Layout.SET);
        Check.is("held", frame.about(0, Layout.HELD), 7);
        Check.is("run over", frame.about(0, Layout.RUN_OVER), 0);
        Check.is("timer", frame.about(0, Layout.TIMER), 0);
        Check.is("the sections stay clear", frame.track(1, Layout.OCCUPIED), 0);
        Check.is("the other route", frame.about(1, Layout.STATE), Layout.FREE);
    }

    private static void wants() {
        for (int how = 1; how <= 4; how++) {
            int position = (how - 1) % 2;
            RouteFrame frame = Layout.overPoints(how);
            frame.move(0, 1 - position);
            frame.tick(3);
            Check.is("request", frame.request(0), 0);
            Check.is("wanted by how " + how, frame.track(0, Layout.WANTED), position);
            Check.is("lie between", frame.track(0, Layout.LIE), -1);
            Check.is("ticks to go", frame.track(0, Layout.TO_GO), 3);
        }
        RouteFrame all = Layout.full();
        all.request(7);
        for (int s = 6; s < 12; s++) {
            Check.is("wanted of " + s, all.track(s, Layout.WANTED), 1);
        }
    }

    private static void pointsThatLieThereStay() {
        for (int how = 1; how <= 4; how++) {
            int position = (how - 1) % 2;
            RouteFrame frame = Layout.overPoints(how);
            frame.move(0, position);
            frame.tick(3);
            frame.request(0);
            Check.is("wanted", frame.track(0, Layout.WANTED), position);
            Check.is("lie", frame.track(0, Layout.LIE), position);
            Check.is("ticks to go", frame.track(0, Layout.TO_GO), 0);
            Check.is("off at once", frame.off(0), true);
        }
    }

    private static void pointsOnTheWayGoOn() {
        RouteFrame frame = Layout.overPoints(2);
        frame.move(0, 1);
        frame.tick(2);
        frame.request(0);
        Check.is("ticks to go when wanted again", frame.track(0, Layout.TO_GO), 1);
        frame.tick(1);
        Check.is("off", frame.off(0), true);
    }

    private static void oneWhenSet() {
        RouteFrame frame = Layout.line();
        frame.request(0);
        Check.is("request again", frame.request(0), 1);
        Check.is("still set", frame.about(0, Layout.STATE), Layout.SET);
    }

    private static void oneWhenTaken() {
        RouteFrame frame = Layout.line();
        frame.request(0);
        frame.occupy(0);
        Check.is("request again", frame.request(0), 1);
        frame.vacate(0);
        Check.is("request when all is clear", frame.request(0), 1);
        Check.is("still taken", frame.about(0, Layout.STATE), Layout.TAKEN);
        Check.is("what was let go is not held", frame.about(0, Layout.HELD), 6);
    }

    private static void oneWhenTimed() {
        RouteFrame frame = Layout.line();
        frame.request(0);
        frame.cancel(0);
        Check.is("request again", frame.request(0), 1);
        frame.tick(3);
        Check.is("request before the last tick", frame.request(0), 1);
        frame.tick(1);
        Check.is("request after it", frame.request(0), 0);
    }

    private static void oneWithoutUses() {
        RouteFrame frame = Layout.plainSections(1);
        frame.route(0, Layout.NONE, 1);
        Check.is("request", frame.request(0), 1);
        Check.is("free", frame.about(0, Layout.STATE), Layout.FREE);
    }

    private static void oneWithFlanksAlone() {
        RouteFrame frame = Layout.sections(true, true, true, true, true, true, false);
        frame.route(0, Layout.NONE, 1);
        for (int s = 0; s < 5; s++) {
            frame.use(0, s, 3 + s % 2);
            Check.is("request with " + (s + 1) + " flanks", frame.request(0), 1);
        }
        Check.is("refused, it wants nothing", frame.track(1, Layout.WANTED), 0);
        frame.use(0, 6, 0);
        Check.is("request with a pass behind them", frame.request(0), 0);
    }

    private static void twoForASetSignal() {
        RouteFrame frame = sameSignal();
        frame.request(0);
        Check.is("another of the same signal is set", frame.request(1), 2);
        Check.is("another signal", frame.request(2), 0);
        RouteFrame turned = sameSignal();
        turned.request(1);
        Check.is("another of the same signal, behind it, is set", turned.request(0), 2);
    }

    private static void twoForATimedSignal() {
        RouteFrame frame = sameSignal();
        frame.request(0);
        frame.cancel(0);
        Check.is("another of the same signal is timed", frame.request(1), 2);
        frame.tick(1);
        Check.is("before its last tick", frame.request(1), 2);
        frame.tick(1);
        Check.is("when it is free", frame.request(1), 0);
    }

    private static void notForATakenSignal() {
        RouteFrame frame = sameSignal();
        frame.request(0);
        frame.occupy(0);
        Check.is("another of the same signal is taken", frame.request(1), 0);
        Check.is("off by the second", frame.off(3), true);
    }

    /** Three plain sections and a route over each: 0 and 1 of signal 3, 2 of signal 4; no approach, delay 2. */
    private static RouteFrame sameSignal() {
        RouteFrame frame = Layout.plainSections(3);
        for (int r = 0; r < 3; r++) {
            frame.route(3 + r / 2, Layout.NONE, 2);
            frame.use(r, r, 0);
        }
        return frame;
    }

    private static void twoForAPass() {
        RouteFrame plain = Layout.line();
        plain.section(false);
        plain.route(1, Layout.NONE, 1);
        plain.use(1, 3, 0);
        plain.use(1, 2, 0);
        plain.request(0);
        Check.is("the last pass of both", plain.request(1), 2);
        Check.is("refused, it is free", plain.about(1, Layout.STATE), Layout.FREE);
        for (int position = 0; position <= 1; position++) {
            RouteFrame frame = Layout.overPoints(1 + position);
            frame.section(false);
            frame.route(1, Layout.NONE, 1);
            frame.use(1, 2, 0);
            frame.use(1, 0, 1 + position);
            frame.request(0);
            Check.is("both pass points in " + position, frame.request(1), 2);
        }
    }

    private static void twoWhileItIsHeld() {
        RouteFrame frame = Layout.line();
        frame.route(1, Layout.NONE, 1);
        frame.use(1, 2, 0);
        frame.request(0);
        Check.is("by a set route", frame.request(1), 2);
        frame.cancel(0);
        Check.is("by a timed route", frame.request(1), 2);
        frame.occupy(0);
        Check.is("by a taken route", frame.request(1), 2);
        frame.occupy(1);
        frame.vacate(0);
        frame.vacate(1);
        Check.is("by a taken route that holds nothing else", frame.request(1), 2);
    }

    private static void whatWasLetGoIsNoHindrance() {
        RouteFrame frame = Layout.line();
        frame.route(1, Layout.NONE, 1);
        frame.use(1, 0, 0);
        frame.request(0);
        frame.occupy(0);
        frame.occupy(1);
        Check.is("before it is let go", frame.request(1), 2);
        frame.vacate(0);
        Check.is("after it is let go", frame.request(1), 0);
        Check.is("the other is still taken", frame.about(0, Layout.STATE), Layout.TAKEN);
    }

    private static void twoForPoints() {
        int[][] howAndHow = {{1, 2}, {1, 4}, {2, 1}, {2, 3}, {3, 2}, {3, 4}, {4, 1}, {4, 3}};
        for (int[] hows : howAndHow) {
            RouteFrame frame = twoOverPoints(hows[0], hows[1]);
            frame.request(0);
            frame.tick(3);
            Check.is("points as " + hows[1] + " that are held as " + hows[0], frame.request(1), 2);
            Check.is("refused, it wants nothing", frame.track(0, Layout.WANTED), (hows[0] - 1) % 2);
            Check.is("refused, it holds nothing", frame.about(1, Layout.HELD), 0);
        }
    }

    private static void samePositionIsNoHindrance() {
        int[][] howAndHow = {{1, 3}, {3, 1}, {3, 3}, {2, 4}, {4, 2}, {4, 4}};
        for (int[] hows : howAndHow) {
            RouteFrame frame = twoOverPoints(hows[0], hows[1]);
            frame.request(0);
            Check.is("points as " + hows[1] + " that are held as " + hows[0], frame.request(1), 0);
            Check.is("the other stays", frame.about(0, Layout.HELD), 3);
        }
    }

    /** Like {@link Layout#overPoints}, with a second route of signal 1 that uses the points so and passes 2. */
    private static RouteFrame twoOverPoints(int how, int otherHow) {
        RouteFrame frame = Layout.overPoints(how);
        frame.section(false);
        frame.route(1, Layout.NONE, 1);
        frame.use(1, 2, 0);
        frame.use(1, 0, otherHow);
        return frame;
    }

    private static void anotherOneOfEight() {
        for (int holder : new int[] {0, 7}) {
            RouteFrame frame = Layout.plainSections(8);
            for (int r = 0; r < 8; r++) {
                frame.route(r == 3 ? 5 : 0, Layout.NONE, 1);
                frame.use(r, r, 0);
            }
            frame.use(3, holder, 0);
            frame.request(holder);
            Check.is("request against " + holder, frame.request(3), 2);
            frame.cancel(holder);
            frame.tick(1);
            Check.is("request without it", frame.request(3), 0);
        }
    }

    private static void threeWhenOccupied() {
        for (int s = 0; s < 3; s++) {
            RouteFrame frame = Layout.line();
            frame.occupy(s);
            Check.is("request with " + s + " occupied", frame.request(0), 3);
            Check.is("refused, it is free", frame.about(0, Layout.STATE), Layout.FREE);
            frame.vacate(s);
            Check.is("request with " + s + " clear", frame.request(0), 0);
        }
        for (int how = 1; how <= 2; how++) {
            RouteFrame frame = Layout.overPoints(how);
            frame.move(0, how - 1);
            frame.occupy(0);
            Check.is("points that are passed are occupied", frame.request(0), 3);
        }
    }

    private static void notForOtherSections() {
        RouteFrame frame = Layout.junction();
        frame.occupy(0);
        frame.occupy(3);
        frame.occupy(4);
        Check.is("approach, flank and a strange section are occupied", frame.request(0), 0);
    }

    private static void fourWhenPointsCannotMove() {
        for (int position = 0; position <= 1; position++) {
            RouteFrame frame = Layout.overPoints(3 + position);
            frame.move(0, 1 - position);
            frame.tick(3);
            frame.occupy(0);
            Check.is("lying otherwise", frame.request(0), 4);
            Check.is("refused, it is free", frame.about(0, Layout.STATE), Layout.FREE);
            Check.is("and wants nothing", frame.track(0, Layout.WANTED), 1 - position);
            frame.vacate(0);
            Check.is("when they are clear", frame.request(0), 0);
        }
        RouteFrame moving = Layout.overPoints(3);
        moving.move(0, 1);
        moving.occupy(0);
        Check.is("on the way to elsewhere", moving.request(0), 4);
        for (int place = 0; place <= 2; place++) {
            RouteFrame frame = Layout.sections(true, false, false);
            frame.route(0, Layout.NONE, 1);
            for (int k = 0; k <= 2; k++) {
                int plain = k < place ? k + 1 : k;
                frame.use(0, k == place ? 0 : plain, k == place ? 4 : 0);
            }
            frame.occupy(0);
            Check.is("as use " + place, frame.request(0), 4);
        }
    }

    private static void notForOneAlone() {
        RouteFrame occupied = Layout.overPoints(3);
        occupied.occupy(0);
        Check.is("occupied, but wanted so", occupied.request(0), 0);
        RouteFrame otherwise = Layout.overPoints(4);
        Check.is("wanted otherwise, but clear", otherwise.request(0), 0);
        RouteFrame moving = Layout.overPoints(4);
        moving.move(0, 1);
        moving.occupy(0);
        Check.is("occupied on the way there", moving.request(0), 0);
        Check.is("still on the way", moving.track(0, Layout.LIE), -1);
    }

    private static void oneBeforeTwo() {
        RouteFrame frame = sameSignal();
        frame.route(3, Layout.NONE, 1);
        frame.request(0);
        Check.is("no pass, and the signal is another's", frame.request(3), 1);
        frame.occupy(0);
        frame.request(1);
        Check.is("taken, and the signal is another's", frame.request(0), 1);
    }

    private static void oneBeforeThree() {
        RouteFrame frame = Layout.line();
        frame.request(0);
        frame.occupy(0);
        Check.is("taken, and a pass is occupied", frame.request(0), 1);
    }

    private static void oneBeforeFour() {
        RouteFrame frame = Layout.sections(true);
        frame.route(0, Layout.NONE, 1);
        frame.use(0, 0, 4);
        frame.occupy(0);
        Check.is("no pass, and points cannot move", frame.request(0), 1);
    }

    private static void twoBeforeThree() {
        RouteFrame frame = sameSignal();
        frame.request(0);
        frame.occupy(1);
        Check.is("the signal is another's, and a pass is occupied", frame.request(1), 2);
        RouteFrame both = Layout.line();
        both.route(1, Layout.NONE, 1);
        both.use(1, 0, 0);
        both.request(0);
        both.occupy(0);
        Check.is("the pass is another's and occupied", both.request(1), 2);
    }

    private static void twoBeforeFour() {
        RouteFrame frame = twoOverPoints(3, 4);
        frame.request(0);
        frame.occupy(0);
        Check.is("the points are another's and cannot move", frame.request(1), 2);
    }

    private static void threeBeforeFour() {
        RouteFrame frame = Layout.overPoints(4);
        frame.occupy(0);
        Check.is("points cannot move", frame.request(0), 4);
        frame.occupy(1);
        Check.is("points cannot move, and a pass behind them is occupied", frame.request(0), 3);
        RouteFrame passed = Layout.overPoints(2);
        passed.occupy(0);
        Check.is("points that are passed cannot move", passed.request(0), 3);
    }

    private static void refusedChangesNothing() {
        int[] due = {1, 1, 1, 4, 2, 1, 1, 1};
        for (int r = 0; r < 8; r++) {
            int route = r;
            Check.is("request(" + r + ")", Layout.busy().request(r), due[r]);
            Life.ofABusyFrameIsNotChangedBy("request(" + r + ")", frame -> frame.request(route));
        }
        RouteFrame frame = Layout.busy();
        frame.occupy(5);
        String before = Snapshot.of(frame);
        Check.is("request(3) when its pass is occupied", frame.request(3), 3);
        Check.is("what is seen then", Snapshot.of(frame), before);
    }

    private static void noSuchRoute() {
        for (int none : Outside.of(0, 1)) {
            RouteFrame frame = Layout.junction();
            Check.refusesIndex("request(" + none + ")", frame, () -> frame.request(none));
        }
        for (int none : Outside.of(0, 7)) {
            RouteFrame frame = Layout.full();
            Check.raisesIndex("request(" + none + ") of 8", () -> frame.request(none));
        }
        Check.is("the last of 8", Layout.full().request(7), 0);
    }
}
