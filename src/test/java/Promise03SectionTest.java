public final class Promise03SectionTest {
    public static void main(String[] args) {
        numbersAndFirstState();
        atMostTwelve();
        mayComeWhileARouteIsSet();
        Check.end();
    }

    private static void numbersAndFirstState() {
        RouteFrame frame = new RouteFrame();
        Check.is("first section", frame.section(false), 0);
        Check.is("second section", frame.section(true), 1);
        int[] due = {0, RouteFrame.NONE, 0, 0, 0, 0, 0};
        for (int what = 0; what <= 6; what++) {
            Check.is("track(0, " + what + ")", frame.track(0, what), due[what]);
            Check.is("track(1, " + what + ")", frame.track(1, what), due[what]);
        }
        Check.is("move of a section with points", frame.move(1, 1), true);
        Check.refusesArgument("move of a section without points", frame, () -> frame.move(0, 1));
    }

    private static void atMostTwelve() {
        RouteFrame frame = new RouteFrame();
        for (int s = 0; s < 12; s++) {
            Check.is("section " + s, frame.section(s % 2 == 0), s);
        }
        Check.refusesState("a 13th section", frame, () -> frame.section(false));
        Check.refusesState("a 13th section with points", frame, () -> frame.section(true));
        Check.is("sections after the 13th", Snapshot.countSections(frame), 12);
    }

    private static void mayComeWhileARouteIsSet() {
        RouteFrame frame = Layout.line();
        frame.request(0);
        Check.is("a section while a route is set", frame.section(true), 3);
        Check.is("the route is still set", frame.about(0, Layout.STATE), Layout.SET);
    }
}
