public final class Promise15AboutTest {
    public static void main(String[] args) {
        throughARoutesLife();
        approachedFromThenOn();
        notApproachedWhileTheSignalIsOn();
        wrongInputs();
        Check.end();
    }

    private static void throughARoutesLife() {
        RouteFrame frame = Layout.junction();
        expect(frame, "free", 0, 0, 0, 0, 0);
        frame.request(0);
        expect(frame, "set", 1, 0, 0, 7, 0);
        frame.occupy(0);
        expect(frame, "approached", 1, 0, 1, 7, 0);
        frame.cancel(0);
        expect(frame, "timed", 3, 3, 1, 7, 0);
        frame.tick(2);
        expect(frame, "timed, after 2 ticks", 3, 1, 1, 7, 0);
        frame.occupy(1);
        expect(frame, "taken", 2, 0, 1, 7, 1);
        frame.occupy(2);
        expect(frame, "taken, both run over", 2, 0, 1, 7, 5);
        frame.vacate(1);
        expect(frame, "taken, one let go", 2, 0, 1, 6, 4);
        frame.vacate(2);
        expect(frame, "free again", 0, 0, 0, 0, 0);
    }

    private static void approachedFromThenOn() {
        RouteFrame frame = Layout.junction();
        frame.request(0);
        frame.occupy(0);
        frame.vacate(0);
        Check.is("approached after the train is gone", frame.about(0, Layout.APPROACHED), 1);
        frame.breakPoints(4, true);
        Check.is("approached with the signal on again", frame.about(0, Layout.APPROACHED), 1);
        frame.clear();
        frame.section(false);
        frame.route(0, RouteFrame.NONE, 1);
        frame.use(0, 0, 0);
        frame.request(0);
        Check.is("without approach, approached at once", frame.about(0, Layout.APPROACHED), 1);
    }

    private static void notApproachedWhileTheSignalIsOn() {
        RouteFrame frame = Layout.junction();
        frame.occupy(0);
        Check.is("a free route", frame.about(0, Layout.APPROACHED), 0);
        frame.breakPoints(4, true);
        frame.request(0);
        Check.is("the signal is on", frame.about(0, Layout.APPROACHED), 0);
        frame.vacate(0);
        frame.breakPoints(4, false);
        Check.is("the train is gone when it is off", frame.about(0, Layout.APPROACHED), 0);
        frame.occupy(0);
        Check.is("off, and the train comes", frame.about(0, Layout.APPROACHED), 1);
    }

    private static void wrongInputs() {
        int big = Integer.MAX_VALUE;
        int small = Integer.MIN_VALUE;
        for (int none : new int[] {-1, 2, 8, small, big}) {
            RouteFrame frame = Layout.junction();
            Check.refusesIndex("about(" + none + ", 0)", frame, () -> frame.about(none, 0));
            Check.refusesIndex("about(" + none + ", 5)", frame, () -> frame.about(none, 5));
        }
        for (int what : new int[] {-1, 5, small, big}) {
            RouteFrame frame = Layout.junction();
            Check.refusesArgument("about(0, " + what + ")", frame, () -> frame.about(0, what));
        }
    }

    private static void expect(RouteFrame frame, String when, int... due) {
        for (int what = 0; what <= 4; what++) {
            Check.is(when + ", about(0, " + what + ")", frame.about(0, what), due[what]);
        }
    }
}
