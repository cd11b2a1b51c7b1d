public final class Promise08OccupyTest {
    public static void main(String[] args) {
        becomesOccupied();
        takesTheRouteThatPasses();
        takesATimedRoute();
        leavesFlanksAndFreeRoutes();
        leavesWhatHasBeenLetGo();
        anApproachThatIsPassedTakes();
        wrongInputs();
        Check.end();
    }

    private static void becomesOccupied() {
        RouteFrame frame = Layout.sections(false, true);
        Check.is("occupy(1)", frame.occupy(1), true);
        Check.is("occupied", frame.track(1, Layout.OCCUPIED), 1);
        Check.is("the other is not", frame.track(0, Layout.OCCUPIED), 0);
        Check.is("occupy(1) again", frame.occupy(1), false);
        Check.is("still occupied", frame.track(1, Layout.OCCUPIED), 1);
    }

    private static void takesTheRouteThatPasses() {
        RouteFrame frame = Layout.line();
        frame.request(0);
        Check.is("off before", frame.off(0), true);
        frame.occupy(1);
        Check.is("state", frame.about(0, Layout.STATE), Layout.TAKEN);
        Check.is("run over", frame.about(0, Layout.RUN_OVER), 2);
        Check.is("held", frame.about(0, Layout.HELD), 7);
        Check.is("still approached", frame.about(0, Layout.APPROACHED), 1);
        Check.is("on", frame.off(0), false);
        frame.occupy(0);
        Check.is("both run over", frame.about(0, Layout.RUN_OVER), 3);
    }

    private static void takesATimedRoute() {
        RouteFrame frame = Layout.line();
        frame.request(0);
        frame.cancel(0);
        frame.tick(1);
        frame.occupy(0);
        Check.is("state", frame.about(0, Layout.STATE), Layout.TAKEN);
        Check.is("its timer goes", frame.about(0, Layout.TIMER), 0);
        frame.tick(20);
        Check.is("time does not free it", frame.about(0, Layout.STATE), Layout.TAKEN);
        Check.is("it holds", frame.about(0, Layout.HELD), 7);
    }

    private static void leavesFlanksAndFreeRoutes() {
        RouteFrame frame = Layout.junction();
        frame.request(0);
        frame.occupy(4);
        Check.is("a flank is occupied", frame.about(0, Layout.STATE), Layout.SET);
        Check.is("nothing is run over", frame.about(0, Layout.RUN_OVER), 0);
        Check.is("off all the same", frame.off(0), true);
        frame.occupy(3);
        Check.is("a free route that passes 3", frame.about(1, Layout.STATE), Layout.FREE);
        Check.is("has nothing run over", frame.about(1, Layout.RUN_OVER), 0);
    }

    private static void leavesWhatHasBeenLetGo() {
        RouteFrame frame = Layout.line();
        frame.request(0);
        frame.occupy(0);
        frame.vacate(0);
        frame.occupy(0);
        Check.is("a section that was let go", frame.about(0, Layout.RUN_OVER), 0);
        Check.is("held", frame.about(0, Layout.HELD), 6);
    }

    private static void anApproachThatIsPassedTakes() {
        RouteFrame frame = Layout.sections(false);
        frame.route(0, 0, 1);
        frame.use(0, 0, 0);
        frame.request(0);
        frame.occupy(0);
        Check.is("taken", frame.about(0, Layout.STATE), Layout.TAKEN);
        Check.is("not approached", frame.about(0, Layout.APPROACHED), 0);
    }

    private static void wrongInputs() {
        for (int none : new int[] {-1, 5, 12, Integer.MIN_VALUE, Integer.MAX_VALUE}) {
            RouteFrame frame = Layout.junction();
            Check.refusesIndex("occupy(" + none + ")", frame, () -> frame.occupy(none));
        }
    }
}
