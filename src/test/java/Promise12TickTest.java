public final class Promise12TickTest {
    public static void main(String[] args) {
        manyTicksAtOnce();
        onlyTimedRoutesCount();
        eachTimerForItself();
        pointsMoveWhateverHoldsThem();
        mayApproach();
        aFullFrame();
        wrongInputs();
        Check.end();
    }

    private static void manyTicksAtOnce() {
        RouteFrame frame = Layout.line();
        frame.section(true);
        frame.move(3, 1);
        frame.request(0);
        frame.cancel(0);
        frame.tick(2);
        Check.is("ticks to go after tick(2)", frame.track(3, Layout.TO_GO), 1);
        Check.is("timer after tick(2)", frame.about(0, Layout.TIMER), 2);
        frame.tick(1);
        Check.is("timer before the last tick", frame.about(0, Layout.TIMER), 1);
        Check.is("state before the last tick", frame.about(0, Layout.STATE), Layout.TIMED);
        Check.is("held before the last tick", frame.about(0, Layout.HELD), 7);
        frame.tick(1);
        Check.is("timer at 0", frame.about(0, Layout.TIMER), 0);
        Check.is("state at 0", frame.about(0, Layout.STATE), Layout.FREE);
        Check.is("held at 0", frame.about(0, Layout.HELD), 0);
        Check.is("approached at 0", frame.about(0, Layout.APPROACHED), 0);
        frame.move(3, 0);
        frame.tick(20);
        Check.is("ticks to go after tick(20)", frame.track(3, Layout.TO_GO), 0);
        Check.is("how they lie after tick(20)", frame.track(3, Layout.LIE), 0);
        frame.tick(1);
        Check.is("timer of a free route", frame.about(0, Layout.TIMER), 0);
    }

    private static void onlyTimedRoutesCount() {
        RouteFrame frame = Layout.line();
        frame.tick(1);
        Check.is("a free route", frame.about(0, Layout.STATE), Layout.FREE);
        frame.request(0);
        frame.tick(20);
        Check.is("a set route", frame.about(0, Layout.STATE), Layout.SET);
        frame.occupy(0);
        frame.tick(20);
        Check.is("a taken route", frame.about(0, Layout.STATE), Layout.TAKEN);
    }

    private static void eachTimerForItself() {
        RouteFrame frame = Layout.sections(false, false);
        for (int r = 0; r < 2; r++) {
            frame.route(r, RouteFrame.NONE, r == 0 ? 9 : 1);
            frame.use(r, r, 0);
        }
        for (int r = 0; r < 2; r++) {
            frame.request(r);
            frame.cancel(r);
        }
        frame.tick(1);
        Check.is("delay 9", frame.about(0, Layout.TIMER), 8);
        Check.is("delay 1", frame.about(1, Layout.STATE), Layout.FREE);
        frame.tick(7);
        Check.is("delay 9 after 8 ticks", frame.about(0, Layout.TIMER), 1);
        frame.tick(1);
        Check.is("delay 9 after 9 ticks", frame.about(0, Layout.STATE), Layout.FREE);
    }

    private static void pointsMoveWhateverHoldsThem() {
        RouteFrame frame = Layout.junction();
        frame.move(4, 1);
        frame.occupy(4);
        frame.breakPoints(4, true);
        frame.request(1);
        frame.tick(3);
        Check.is("occupied and broken points", frame.track(4, Layout.LIE), 1);
        Check.is("held points", frame.track(1, Layout.LIE), 1);
    }

    private static void mayApproach() {
        RouteFrame frame = Layout.junction();
        frame.request(1);
        frame.tick(2);
        Check.is("not approached before the points lie", frame.about(1, Layout.APPROACHED), 0);
        Check.is("on", frame.off(1), false);
        frame.tick(1);
        Check.is("approached when they lie", frame.about(1, Layout.APPROACHED), 1);
        Check.is("off", frame.off(1), true);
    }

    private static void aFullFrame() {
        RouteFrame frame = Layout.full();
        frame.request(7);
        frame.tick(3);
        for (int s = 6; s < 12; s++) {
            Check.is("points of " + s, frame.track(s, Layout.LIE), 1);
        }
        Check.is("cancel(7)", frame.cancel(7), 1);
        frame.tick(8);
        Check.is("timer of the last route", frame.about(7, Layout.TIMER), 1);
        frame.tick(1);
        Check.is("the last route is free", frame.about(7, Layout.STATE), Layout.FREE);
    }

    private static void wrongInputs() {
        for (int n : new int[] {0, -1, 21, Integer.MIN_VALUE, Integer.MAX_VALUE}) {
            RouteFrame frame = Layout.junction();
            frame.move(1, 1);
            Check.refusesArgument("tick(" + n + ")", frame, () -> frame.tick(n));
        }
    }
}
