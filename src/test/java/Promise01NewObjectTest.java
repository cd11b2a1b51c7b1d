public final class Promise01NewObjectTest {
    public static void main(String[] args) {
        Check.that("No sections", Promise01NewObjectTest::noSections);
        Check.that("no routes.", Promise01NewObjectTest::noRoutes);
        Check.that("Otherwise it is on. (of a new object)", Promise01NewObjectTest::allSignalsAreOn);
        Check.that("Time goes on by n ticks (of a new object)", Promise01NewObjectTest::timeGoesOn);
        Check.that("NONE = -1", Promise01NewObjectTest::none);
        Check.that("RouteFrame(): each object is for itself", Promise01NewObjectTest::besideAnotherObject);
        Check.end();
    }

    private static void noSections() {
        RouteFrame frame = new RouteFrame();
        for (int s : new int[] {-1, 0, 1, 11, 12}) {
            Check.raisesIndex("occupy(" + s + ")", () -> frame.occupy(s));
            Check.raisesIndex("vacate(" + s + ")", () -> frame.vacate(s));
            Check.raisesIndex("move(" + s + ", 0)", () -> frame.move(s, 0));
            Check.raisesIndex("breakPoints(" + s + ", true)", () -> frame.breakPoints(s, true));
            Check.raisesIndex("track(" + s + ", 0)", () -> frame.track(s, 0));
        }
        Check.raisesIndex("approach 0", () -> frame.route(0, 0, 1));
        Check.is("a route without approach", frame.route(0, Layout.NONE, 1), 0);
        Check.raisesIndex("use(0, 0, 0)", () -> frame.use(0, 0, 0));
        Check.is("the first section", frame.section(false), 0);
    }

    private static void noRoutes() {
        RouteFrame frame = new RouteFrame();
        for (int r : new int[] {-1, 0, 1, 7, 8}) {
            Check.raisesIndex("request(" + r + ")", () -> frame.request(r));
            Check.raisesIndex("cancel(" + r + ")", () -> frame.cancel(r));
            Check.raisesIndex("about(" + r + ", 0)", () -> frame.about(r, 0));
            Check.raisesIndex("clash(" + r + ", " + r + ")", () -> frame.clash(r, r));
        }
        frame.section(false);
        Check.raisesIndex("use(0, 0, 0)", () -> frame.use(0, 0, 0));
        Check.is("the first route", frame.route(0, 0, 1), 0);
    }

    private static void allSignalsAreOn() {
        RouteFrame frame = new RouteFrame();
        for (int signal = 0; signal <= 5; signal++) {
            Check.is("off(" + signal + ")", frame.off(signal), false);
        }
    }

    private static void timeGoesOn() {
        RouteFrame frame = new RouteFrame();
        frame.tick(1);
        frame.tick(20);
        Check.is("sections", Snapshot.countSections(frame), 0);
        Check.is("routes", Snapshot.countRoutes(frame), 0);
    }

    private static void none() {
        Check.is("NONE", RouteFrame.NONE, -1);
    }

    private static void besideAnotherObject() {
        RouteFrame first = new RouteFrame();
        RouteFrame busy = Layout.busy();
        RouteFrame second = new RouteFrame();
        Check.is("an object made before", Snapshot.of(first), Snapshot.of(second));
        Check.is("sections", Snapshot.countSections(second), 0);
        Check.is("routes", Snapshot.countRoutes(second), 0);
        second.section(true);
        second.move(0, 1);
        second.tick(3);
        second.clear();
        Check.is("the busy one", Snapshot.of(busy), Snapshot.of(Layout.busy()));
    }
}
