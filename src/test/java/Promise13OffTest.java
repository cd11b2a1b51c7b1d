public final class Promise13OffTest {
    public static void main(String[] args) {
        Check.that("Whether a signal is off.", Promise13OffTest::everySignal);
        Check.that("Whether a signal is off. (that no route has)", Promise13OffTest::withoutRoute);
        Check.that("Whether a signal is off. (by any of 8 routes)", Promise13OffTest::byAnyRoute);
        Check.that("Whether a signal is off. (asking changes nothing)", Promise13OffTest::askingChangesNothing);
        Check.that("IndexOutOfBoundsException when signal is not 0 .. 5.", Promise13OffTest::wrongSignal);
        Check.end();
    }

    private static void everySignal() {
        for (int signal = 0; signal <= 5; signal++) {
            RouteFrame frame = Layout.oneEach(6);
            frame.request(signal);
            for (int other = 0; other <= 5; other++) {
                Check.is("off(" + other + ") by a route of " + signal, frame.off(other), other == signal);
            }
        }
    }

    private static void withoutRoute() {
        RouteFrame frame = Layout.line();
        frame.request(0);
        for (int signal = 1; signal <= 5; signal++) {
            Check.is("off(" + signal + ")", frame.off(signal), false);
        }
    }

    private static void byAnyRoute() {
        for (int r = 0; r < 8; r++) {
            RouteFrame frame = Layout.plainSections(8);
            for (int route = 0; route < 8; route++) {
                frame.route(5, Layout.NONE, 1);
                frame.use(route, route, 0);
            }
            Check.is("off(5) at first", frame.off(5), false);
            frame.request(r);
            Check.is("off(5) by " + r, frame.off(5), true);
            Check.is("off(4)", frame.off(4), false);
        }
    }

    private static void wrongSignal() {
        for (int signal : Outside.of(0, 5)) {
            RouteFrame frame = Layout.junction();
            Check.refusesIndex("off(" + signal + ")", frame, () -> frame.off(signal));
            Check.raisesIndex("off(" + signal + ") of a new object", () -> new RouteFrame().off(signal));
        }
    }

    private static void askingChangesNothing() {
        for (int s = 0; s <= 5; s++) {
            int signal = s;
            Life.ofABusyFrameIsNotChangedBy("off(" + s + ")", frame -> frame.off(signal));
        }
    }
}
