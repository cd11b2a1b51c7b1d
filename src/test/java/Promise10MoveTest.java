public final class Promise10MoveTest {
    public static void main(String[] args) {
        Check.that("Wants points in a position, by hand", Promise10MoveTest::wants);
        Check.that("Wants points in a position (where they lie)", Promise10MoveTest::whereTheyLie);
        Check.that("Wants points in a position (on the way there)", Promise10MoveTest::onTheWayThere);
        Check.that("Wants points in a position (on the way elsewhere)", Promise10MoveTest::onTheWayElsewhere);
        Check.that("Wants points in a position (broken ones too)", Promise10MoveTest::brokenOnes);
        Check.that("false, refused, when the section is occupied", Promise10MoveTest::refusedWhenOccupied);
        Check.that("or any route holds a use of it. (a pass)", Promise10MoveTest::refusedWhenPassed);
        Check.that("or any route holds a use of it. (a flank)", Promise10MoveTest::refusedWhenFlanked);
        Check.that("or any route holds a use of it. (SET, TIMED or TAKEN)", Promise10MoveTest::whateverItsState);
        Check.that("or any route holds a use of it. (the first or the last of 8)", Promise10MoveTest::anyOfEight);
        Check.that("or any route holds a use of it. (not any more)", Promise10MoveTest::letGo);
        Check.that("refused (it changes nothing)", Promise10MoveTest::refusedChangesNothing);
        Check.that("IndexOutOfBoundsException when there is no such section", Promise10MoveTest::noSuchSection);
        Check.that("IllegalArgumentException when it has no points", Promise10MoveTest::noPoints);
        Check.that("IllegalArgumentException when .. position is not 0 or 1.", Promise10MoveTest::wrongPosition);
        Check.that("IllegalArgumentException .. (rather than refused)", Promise10MoveTest::thrownRatherThanRefused);
        Check.end();
    }

    private static void wants() {
        RouteFrame frame = Layout.sections(true, true);
        Check.is("move(0, 1)", frame.move(0, 1), true);
        expectPoints(frame, 0, "at once", -1, 1, 3);
        expectPoints(frame, 1, "the other points", 0, 0, 0);
        frame.tick(3);
        expectPoints(frame, 0, "after 3 ticks", 1, 1, 0);
        Check.is("move(0, 0)", frame.move(0, 0), true);
        expectPoints(frame, 0, "back at once", -1, 0, 3);
        frame.tick(3);
        expectPoints(frame, 0, "back after 3 ticks", 0, 0, 0);
    }

    private static void whereTheyLie() {
        RouteFrame frame = Layout.sections(true);
        Check.is("move(0, 0)", frame.move(0, 0), true);
        expectPoints(frame, 0, "they stay in 0", 0, 0, 0);
        frame.move(0, 1);
        frame.tick(3);
        Check.is("move(0, 1)", frame.move(0, 1), true);
        expectPoints(frame, 0, "they stay in 1", 1, 1, 0);
    }

    private static void onTheWayThere() {
        RouteFrame frame = Layout.sections(true);
        frame.move(0, 1);
        frame.tick(2);
        Check.is("the same position again", frame.move(0, 1), true);
        expectPoints(frame, 0, "it has been wanted from earlier on", -1, 1, 1);
    }

    private static void onTheWayElsewhere() {
        for (int ticks = 0; ticks <= 2; ticks++) {
            RouteFrame frame = Layout.sections(true);
            frame.move(0, 1);
            if (ticks > 0) {
                frame.tick(ticks);
            }
            Check.is("back after " + ticks, frame.move(0, 0), true);
            expectPoints(frame, 0, "3 ticks anew", -1, 0, 3);
        }
    }

    private static void brokenOnes() {
        RouteFrame frame = Layout.sections(true);
        frame.breakPoints(0, true);
        Check.is("move(0, 1)", frame.move(0, 1), true);
        frame.tick(3);
        expectPoints(frame, 0, "after 3 ticks", 1, 1, 0);
    }

    private static void refusedWhenOccupied() {
        RouteFrame frame = Layout.sections(true, true);
        frame.occupy(0);
        Check.is("move(0, 1)", frame.move(0, 1), false);
        Check.is("to where they lie", frame.move(0, 0), false);
        expectPoints(frame, 0, "refused", 0, 0, 0);
        Check.is("the other section is clear", frame.move(1, 1), true);
        frame.vacate(0);
        Check.is("when it is clear", frame.move(0, 1), true);
    }

    private static void refusedWhenPassed() {
        for (int how = 1; how <= 2; how++) {
            RouteFrame frame = Layout.overPoints(how);
            frame.request(0);
            frame.tick(3);
            Check.is("to the other position", frame.move(0, 2 - how), false);
            Check.is("to where they lie", frame.move(0, how - 1), false);
            expectPoints(frame, 0, "refused", how - 1, how - 1, 0);
        }
    }

    private static void refusedWhenFlanked() {
        for (int how = 3; how <= 4; how++) {
            RouteFrame frame = Layout.overPoints(how);
            frame.request(0);
            frame.tick(3);
            Check.is("to the other position", frame.move(0, 4 - how), false);
            Check.is("to where they lie", frame.move(0, how - 3), false);
            expectPoints(frame, 0, "refused", how - 3, how - 3, 0);
        }
    }

    private static void whateverItsState() {
        RouteFrame frame = Layout.overPoints(3);
        Check.is("a free route does not hold it", frame.move(0, 0), true);
        frame.request(0);
        Check.is("a set route", frame.move(0, 1), false);
        frame.cancel(0);
        Check.is("timed", frame.about(0, Layout.STATE), Layout.TIMED);
        Check.is("a timed route", frame.move(0, 1), false);
        frame.occupy(1);
        Check.is("taken", frame.about(0, Layout.STATE), Layout.TAKEN);
        Check.is("a taken route", frame.move(0, 1), false);
    }

    private static void anyOfEight() {
        for (int holder : new int[] {0, 7}) {
            for (int how : new int[] {1, 3}) {
                RouteFrame frame = Layout.sections(true, false);
                for (int r = 0; r < 8; r++) {
                    frame.route(r % 6, Layout.NONE, 1);
                }
                frame.use(holder, 1, 0);
                frame.use(holder, 0, how);
                frame.request(holder);
                Check.is("held by " + holder + " as " + how, frame.move(0, 1), false);
            }
        }
    }

    private static void letGo() {
        RouteFrame frame = Layout.junction();
        frame.request(0);
        frame.occupy(1);
        frame.occupy(2);
        frame.vacate(1);
        Check.is("a pass that was let go behind a train", frame.move(1, 1), true);
        Check.is("the flank that is still held", frame.move(4, 1), false);
        frame.vacate(2);
        Check.is("a flank of a route that is free", frame.move(4, 1), true);
        RouteFrame back = Layout.junction();
        back.request(0);
        back.cancel(0);
        Check.is("a pass of a route that was taken back", back.move(1, 1), true);
        Check.is("and a flank of it", back.move(4, 1), true);
    }

    private static void refusedChangesNothing() {
        for (int s : new int[] {1, 3, 7, 11}) {
            for (int p = 0; p <= 1; p++) {
                int position = p;
                Check.is("move(" + s + ", " + p + ")", Layout.busy().move(s, p), false);
                Life.ofABusyFrameIsNotChangedBy(
                        "move(" + s + ", " + p + ")", frame -> frame.move(s, position));
            }
        }
    }

    private static void noSuchSection() {
        for (int none : Outside.of(0, 4)) {
            RouteFrame frame = Layout.junction();
            Check.refusesIndex("move(" + none + ", 0)", frame, () -> frame.move(none, 0));
            Check.raisesIndex("move(" + none + ", 1)", () -> frame.move(none, 1));
        }
        RouteFrame full = Layout.full();
        for (int none : Outside.of(0, 11)) {
            Check.raisesIndex("move(" + none + ", 1) of 12", () -> full.move(none, 1));
        }
        Check.is("the last of 12", full.move(11, 1), true);
    }

    private static void noPoints() {
        for (int p = 0; p <= 1; p++) {
            int position = p;
            RouteFrame frame = Layout.junction();
            Check.refusesArgument("move(2, " + p + ")", frame, () -> frame.move(2, position));
        }
    }

    private static void wrongPosition() {
        for (int position : Outside.of(0, 1)) {
            RouteFrame frame = Layout.junction();
            Check.refusesArgument("move(1, " + position + ")", frame, () -> frame.move(1, position));
        }
    }

    private static void thrownRatherThanRefused() {
        RouteFrame frame = Layout.junction();
        frame.request(0);
        Check.raisesArgument("no points, held", () -> frame.move(2, 0));
        Check.raisesArgument("wrong position, held", () -> frame.move(1, 2));
        frame.occupy(1);
        frame.occupy(2);
        Check.raisesArgument("no points, occupied", () -> frame.move(2, 0));
        Check.raisesArgument("wrong position, occupied", () -> frame.move(1, -1));
    }

    private static void expectPoints(RouteFrame frame, int section, String when, int lie, int wanted, int toGo) {
        Check.is(when + ", how they lie", frame.track(section, Layout.LIE), lie);
        Check.is(when + ", wanted", frame.track(section, Layout.WANTED), wanted);
        Check.is(when + ", ticks to go", frame.track(section, Layout.TO_GO), toGo);
    }
}
