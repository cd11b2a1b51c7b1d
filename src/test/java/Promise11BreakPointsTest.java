public final class Promise11BreakPointsTest {
    public static void main(String[] args) {
        brokenOrNot();
        aSignalGoesOn();
        mendingMayApproach();
        wrongInputs();
        Check.end();
    }

    private static void brokenOrNot() {
        RouteFrame frame = Layout.sections(true, true);
        frame.breakPoints(0, false);
        Check.is("not broken", frame.track(0, Layout.BROKEN), 0);
        frame.breakPoints(0, true);
        frame.breakPoints(0, true);
        Check.is("broken", frame.track(0, Layout.BROKEN), 1);
        Check.is("the other is not", frame.track(1, Layout.BROKEN), 0);
        Check.is("they lie as before", frame.track(0, Layout.LIE), 0);
        frame.breakPoints(0, false);
        Check.is("not any more", frame.track(0, Layout.BROKEN), 0);
    }

    private static void aSignalGoesOn() {
        RouteFrame frame = Layout.junction();
        frame.request(0);
        for (int points : new int[] {1, 4}) {
            frame.breakPoints(points, true);
            Check.is("off with broken points in " + points, frame.off(0), false);
            Check.is("the route stays set", frame.about(0, Layout.STATE), Layout.SET);
            frame.breakPoints(points, false);
            Check.is("off with mended points in " + points, frame.off(0), true);
        }
        frame.cancel(0);
        frame.breakPoints(1, true);
        Check.is("a request over broken points", frame.request(0), 0);
        Check.is("off", frame.off(0), false);
    }

    private static void mendingMayApproach() {
        RouteFrame frame = Layout.junction();
        frame.breakPoints(1, true);
        frame.occupy(0);
        frame.request(0);
        Check.is("not approached while the signal is on", frame.about(0, Layout.APPROACHED), 0);
        frame.breakPoints(1, false);
        Check.is("approached once it is off", frame.about(0, Layout.APPROACHED), 1);
    }

    private static void wrongInputs() {
        for (int none : new int[] {-1, 5, 12, Integer.MIN_VALUE, Integer.MAX_VALUE}) {
            RouteFrame frame = Layout.junction();
            Check.refusesIndex("breakPoints(" + none + ")", frame, () -> frame.breakPoints(none, true));
        }
        RouteFrame frame = Layout.junction();
        Check.refusesArgument("breakPoints without points", frame, () -> frame.breakPoints(0, true));
        Check.refusesArgument("mending without points", frame, () -> frame.breakPoints(0, false));
    }
}
