public final class Promise02ClearTest {
    public static void main(String[] args) {
        everythingGoes();
        numbersBeginAnewWithFreshState();
        aTakenRouteGoes();
        clearOfNothing();
        Check.end();
    }

    private static void everythingGoes() {
        RouteFrame frame = Layout.junction();
        frame.request(1);
        frame.tick(3);
        Check.is("off(1) before clear", frame.off(1), true);
        frame.clear();
        Check.is("after clear", Snapshot.of(frame), Snapshot.of(new RouteFrame()));
    }

    private static void numbersBeginAnewWithFreshState() {
        RouteFrame frame = Layout.junction();
        frame.request(1);
        frame.tick(3);
        frame.breakPoints(1, true);
        frame.breakPoints(4, true);
        frame.move(4, 1);
        frame.cancel(1);
        frame.occupy(0);
        Check.is("an old timer", frame.about(1, Layout.TIMER), 2);
        frame.clear();
        // Other kinds than before under the same numbers, so that nothing old can shine through.
        RouteFrame fresh = new RouteFrame();
        RouteFrame[] both = {frame, fresh};
        for (RouteFrame one : both) {
            Check.is("section after clear", one.section(true), 0);
            for (int s = 1; s < 12; s++) {
                one.section(s % 2 == 1);
            }
            Check.is("route after clear", one.route(1, RouteFrame.NONE, 9), 0);
            for (int r = 1; r < 8; r++) {
                one.route(r % 6, r, 1);
            }
        }
        Check.is("made anew after clear", Snapshot.of(frame), Snapshot.of(fresh));
        Check.is("request without uses after clear", frame.request(0), 1);
        frame.use(0, 1, 1);
        Check.is("request after clear", frame.request(0), 0);
        Check.is("held after clear", frame.about(0, Layout.HELD), 1);
        Check.is("off(1) after clear", frame.off(1), true);
    }

    private static void aTakenRouteGoes() {
        RouteFrame frame = Layout.line();
        frame.request(0);
        frame.occupy(0);
        frame.clear();
        Check.is("section after clear", frame.section(false), 0);
        Check.is("route after clear", frame.route(0, RouteFrame.NONE, 1), 0);
        Check.is("occupied after clear", frame.track(0, Layout.OCCUPIED), 0);
        for (int what = 0; what <= 4; what++) {
            Check.is("about(0, " + what + ") after clear", frame.about(0, what), 0);
        }
    }

    private static void clearOfNothing() {
        RouteFrame frame = new RouteFrame();
        frame.clear();
        frame.clear();
        Check.is("section after two clears", frame.section(false), 0);
        Check.is("route after two clears", frame.route(0, 0, 1), 0);
    }
}
