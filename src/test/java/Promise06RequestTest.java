public final class Promise06RequestTest {
    public static void main(String[] args) {
        setsAndWants();
        refusedWhenNotFreeOrWithoutPass();
        refusedForTheSignal();
        refusedForWhatAnotherHolds();
        whatHasBeenLetGoIsNoHindrance();
        sharedPointsInTheSamePosition();
        refusedWhenOccupied();
        refusedWhenPointsCannotMove();
        refusedForAFlankWhereverItStands();
        orderOfRefusals();
        pointsAlreadyOnTheWayGoOn();
        wrongInputs();
        Check.end();
    }

    private static void setsAndWants() {
        RouteFrame frame = Layout.junction();
        frame.move(4, 1);
        frame.tick(3);
        Check.is("request(0)", frame.request(0), 0);
        Check.is("state", frame.about(0, Layout.STATE), Layout.SET);
        Check.is("held", frame.about(0, Layout.HELD), 7);
        Check.is("run over", frame.about(0, Layout.RUN_OVER), 0);
        Check.is("timer", frame.about(0, Layout.TIMER), 0);
        Check.is("points that lie right stay", frame.track(1, Layout.LIE), 0);
        Check.is("and have no ticks to go", frame.track(1, Layout.TO_GO), 0);
        Check.is("flank points move", frame.track(4, Layout.LIE), -1);
        Check.is("to the position for it", frame.track(4, Layout.WANTED), 0);
        Check.is("in 3 ticks", frame.track(4, Layout.TO_GO), 3);
        Check.is("sections that are used stay clear", frame.track(1, Layout.OCCUPIED), 0);
    }

    private static void refusedWhenNotFreeOrWithoutPass() {
        RouteFrame frame = Layout.junction();
        int flankOnly = frame.route(2, RouteFrame.NONE, 1);
        Check.is("a route without uses", frame.request(flankOnly), 1);
        frame.use(flankOnly, 4, 4);
        Check.is("a route with a flank alone", frame.request(flankOnly), 1);
        Check.is("refused, it wants nothing", frame.track(4, Layout.WANTED), 0);
        frame.request(0);
        Check.is("a route that is set", frame.request(0), 1);
        frame.occupy(0);
        frame.cancel(0);
        Check.is("timed", frame.about(0, Layout.STATE), Layout.TIMED);
        Check.is("a route that is timed", frame.request(0), 1);
        frame.occupy(1);
        Check.is("a route that is taken", frame.request(0), 1);
    }

    private static void refusedForTheSignal() {
        RouteFrame frame = Layout.sections(false, false, false);
        frame.route(3, RouteFrame.NONE, 2);
        frame.use(0, 0, 0);
        frame.use(0, 2, 0);
        frame.route(3, RouteFrame.NONE, 2);
        frame.use(1, 1, 0);
        frame.request(0);
        Check.is("another of the same signal is set", frame.request(1), 2);
        frame.cancel(0);
        Check.is("another of the same signal is timed", frame.request(1), 2);
        frame.occupy(0);
        Check.is("another of the same signal is taken", frame.request(1), 0);
        Check.is("off by the second while the first is taken", frame.off(3), true);
    }

    private static void refusedForWhatAnotherHolds() {
        int[][] sectionHowDue = {
            {0, 0, 2}, {1, 1, 2}, {1, 2, 2}, {1, 4, 2}, {1, 3, 0}, {2, 3, 2}, {2, 1, 2}, {2, 4, 0}, {2, 2, 0},
        };
        for (int[] row : sectionHowDue) {
            RouteFrame frame = Layout.sections(false, true, true, false);
            frame.route(0, RouteFrame.NONE, 1);
            frame.use(0, 0, 0);
            frame.use(0, 1, 1);
            frame.use(0, 2, 4);
            frame.route(1, RouteFrame.NONE, 1);
            frame.use(1, 3, 0);
            frame.use(1, row[0], row[1]);
            frame.request(0);
            String before = Snapshot.of(frame);
            String what = "request of a route that uses " + row[0] + " as " + row[1];
            Check.is(what, frame.request(1), row[2]);
            if (row[2] != 0) {
                Check.is("what is seen after a refused " + what, Snapshot.of(frame), before);
            }
        }
    }

    private static void whatHasBeenLetGoIsNoHindrance() {
        RouteFrame frame = Layout.line();
        frame.route(1, RouteFrame.NONE, 1);
        frame.use(1, 0, 0);
        frame.request(0);
        frame.occupy(0);
        frame.occupy(1);
        Check.is("before it is let go", frame.request(1), 2);
        frame.vacate(0);
        Check.is("after it is let go", frame.request(1), 0);
    }

    private static void sharedPointsInTheSamePosition() {
        RouteFrame frame = Layout.sections(true, false, false);
        for (int r = 0; r < 3; r++) {
            frame.route(r, RouteFrame.NONE, 1);
        }
        frame.use(0, 0, 4);
        frame.use(0, 1, 0);
        frame.use(1, 0, 4);
        frame.use(1, 2, 0);
        frame.use(2, 0, 2);
        Check.is("a flank", frame.request(0), 0);
        Check.is("a second flank in the same position", frame.request(1), 0);
        Check.is("a pass in the same position", frame.request(2), 0);
        Check.is("flank holders", frame.track(0, Layout.FLANK_HOLDERS), 3);
        Check.is("pass holder", frame.track(0, Layout.PASS_HOLDER), 2);
    }

    private static void refusedWhenOccupied() {
        RouteFrame frame = Layout.junction();
        frame.occupy(2);
        Check.is("a pass is occupied", frame.request(0), 3);
        frame.vacate(2);
        frame.occupy(1);
        Check.is("points that are passed are occupied", frame.request(0), 3);
        frame.vacate(1);
        frame.occupy(0);
        Check.is("the approach may be occupied", frame.request(0), 0);
    }

    private static void refusedWhenPointsCannotMove() {
        RouteFrame frame = Layout.junction();
        frame.occupy(4);
        Check.is("an occupied flank that is wanted so", frame.request(0), 0);
        frame.cancel(0);
        frame.vacate(4);
        frame.move(4, 1);
        frame.occupy(4);
        Check.is("an occupied flank that is wanted otherwise", frame.request(0), 4);
        Check.is("refused, it is free", frame.about(0, Layout.STATE), Layout.FREE);
        Check.is("and the points are wanted as before", frame.track(4, Layout.WANTED), 1);
        frame.vacate(4);
        frame.tick(3);
        frame.move(4, 0);
        frame.occupy(4);
        Check.is("occupied on the way to the position", frame.request(0), 0);
        Check.is("still on the way", frame.track(4, Layout.LIE), -1);
    }

    private static void refusedForAFlankWhereverItStands() {
        for (int place = 0; place <= 2; place++) {
            RouteFrame frame = Layout.sections(true, false, false);
            frame.route(0, RouteFrame.NONE, 1);
            for (int k = 0; k <= 2; k++) {
                if (k == place) {
                    frame.use(0, 0, 4);
                } else {
                    frame.use(0, k < place ? k + 1 : k, 0);
                }
            }
            frame.occupy(0);
            Check.is("an occupied flank as use " + place, frame.request(0), 4);
            frame.vacate(0);
            Check.is("a clear flank as use " + place, frame.request(0), 0);
        }
    }

    private static void orderOfRefusals() {
        RouteFrame frame = Layout.junction();
        frame.move(4, 1);
        frame.occupy(4);
        frame.occupy(2);
        Check.is("3 before 4", frame.request(0), 3);
        frame.request(1);
        Check.is("2 before 3 and 4", frame.request(0), 2);
        frame.vacate(2);
        Check.is("2 before 4", frame.request(0), 2);
        frame.occupy(3);
        Check.is("1 before 2 and 3", frame.request(1), 1);
    }

    private static void pointsAlreadyOnTheWayGoOn() {
        RouteFrame frame = Layout.junction();
        frame.move(1, 1);
        frame.tick(2);
        frame.request(1);
        Check.is("ticks to go when wanted again", frame.track(1, Layout.TO_GO), 1);
    }

    private static void wrongInputs() {
        for (int none : new int[] {-1, 2, 8, Integer.MIN_VALUE, Integer.MAX_VALUE}) {
            RouteFrame frame = Layout.junction();
            Check.refusesIndex("request(" + none + ")", frame, () -> frame.request(none));
        }
    }
}
