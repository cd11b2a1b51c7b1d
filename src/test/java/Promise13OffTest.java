public final class Promise13OffTest {
    public static void main(String[] args) {
        offJustWhileSafe();
        onlyTheSignalOfTheRoute();
        anyRouteOfTheSignal();
        pointsMustBeFound();
        wrongInputs();
        Check.end();
    }

    private static void offJustWhileSafe() {
        RouteFrame frame = Layout.line();
        Check.is("free", frame.off(0), false);
        frame.request(0);
        Check.is("set", frame.off(0), true);
        frame.cancel(0);
        Check.is("timed", frame.off(0), false);
        frame.tick(4);
        frame.request(0);
        frame.occupy(2);
        Check.is("taken", frame.off(0), false);
        frame.vacate(2);
        Check.is("taken, all clear", frame.off(0), false);
    }

    private static void onlyTheSignalOfTheRoute() {
        for (int signal = 0; signal <= 5; signal++) {
            RouteFrame frame = Layout.sections(false);
            frame.route(signal, RouteFrame.NONE, 1);
            frame.use(0, 0, 0);
            frame.request(0);
            for (int other = 0; other <= 5; other++) {
                Check.is("off(" + other + ") by a route of " + signal, frame.off(other), other == signal);
            }
        }
    }

    private static void anyRouteOfTheSignal() {
        RouteFrame frame = Layout.sections(false, false);
        for (int r = 0; r < 2; r++) {
            frame.route(4, RouteFrame.NONE, 1);
            frame.use(r, r, 0);
        }
        frame.request(1);
        Check.is("off by the second route", frame.off(4), true);
    }

    private static void pointsMustBeFound() {
        int[] position = {0, 1, 0, 1};
        for (int how = 1; how <= 4; how++) {
            RouteFrame frame = Layout.sections(true, false);
            frame.route(0, RouteFrame.NONE, 1);
            frame.use(0, 0, how);
            frame.use(0, 1, 0);
            frame.move(0, 1 - position[how - 1]);
            frame.tick(3);
            frame.request(0);
            Check.is("on at once, how " + how, frame.off(0), false);
            frame.tick(2);
            Check.is("on between, how " + how, frame.off(0), false);
            frame.tick(1);
            Check.is("off when they lie, how " + how, frame.off(0), true);
            frame.breakPoints(0, true);
            Check.is("on when broken, how " + how, frame.off(0), false);
        }
    }

    private static void wrongInputs() {
        for (int signal : new int[] {-1, 6, Integer.MIN_VALUE, Integer.MAX_VALUE}) {
            RouteFrame frame = Layout.junction();
            Check.refusesIndex("off(" + signal + ")", frame, () -> frame.off(signal));
        }
    }
}
