public final class Promise04RouteTest {
    public static void main(String[] args) {
        numbersAndFirstState();
        edges();
        wrongInputs();
        atMostEight();
        orderOfExceptions();
        Check.end();
    }

    private static void numbersAndFirstState() {
        RouteFrame frame = Layout.sections(false);
        Check.is("first route", frame.route(0, RouteFrame.NONE, 1), 0);
        Check.is("second route", frame.route(0, 0, 1), 1);
        for (int what = 0; what <= 4; what++) {
            Check.is("about(0, " + what + ")", frame.about(0, what), 0);
        }
        Check.is("a new route has no uses", frame.request(0), 1);
    }

    private static void edges() {
        RouteFrame frame = Layout.sections(false, true);
        Check.is("least signal, no approach, least delay", frame.route(0, -1, 1), 0);
        Check.is("greatest signal, last section, greatest delay", frame.route(5, 1, 9), 1);
        frame.use(1, 1, 1);
        frame.occupy(0);
        frame.request(1);
        Check.is("approached by its own approach alone", frame.about(1, Layout.APPROACHED), 0);
        Check.is("off(5)", frame.off(5), true);
    }

    private static void wrongInputs() {
        int big = Integer.MAX_VALUE;
        int small = Integer.MIN_VALUE;
        for (int approach : new int[] {-2, 2, 12, small, big}) {
            RouteFrame frame = Layout.sections(false, true);
            Check.refusesIndex("approach " + approach, frame, () -> frame.route(0, approach, 1));
        }
        for (int signal : new int[] {-1, 6, small, big}) {
            RouteFrame frame = Layout.sections(false, true);
            Check.refusesArgument("signal " + signal, frame, () -> frame.route(signal, 0, 1));
        }
        for (int delay : new int[] {0, 10, -1, small, big}) {
            RouteFrame frame = Layout.sections(false, true);
            Check.refusesArgument("delay " + delay, frame, () -> frame.route(0, 0, delay));
        }
    }

    private static void atMostEight() {
        RouteFrame frame = Layout.line();
        frame.request(0);
        for (int r = 1; r < 8; r++) {
            Check.is("route " + r + " while route 0 is set", frame.route(r % 6, r % 3, r), r);
        }
        Check.refusesState("a 9th route", frame, () -> frame.route(0, 0, 1));
        Check.is("routes after the 9th", Snapshot.countRoutes(frame), 8);
    }

    private static void orderOfExceptions() {
        RouteFrame frame = Layout.sections(false);
        Check.refusesIndex("approach before signal", frame, () -> frame.route(6, 1, 1));
        RouteFrame full = eightRoutes();
        Check.refusesIndex("approach before a 9th route", full, () -> full.route(0, 1, 1));
        RouteFrame alsoFull = eightRoutes();
        Check.refusesArgument("signal before a 9th route", alsoFull, () -> alsoFull.route(6, 0, 1));
    }

    private static RouteFrame eightRoutes() {
        RouteFrame frame = Layout.sections(false);
        for (int r = 0; r < 8; r++) {
            frame.route(0, 0, 1);
        }
        return frame;
    }
}
