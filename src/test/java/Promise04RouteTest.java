public final class Promise04RouteTest {
    public static void main(String[] args) {
        Check.that("A new route without uses", Promise04RouteTest::withoutUses);
        Check.that("answers its number.", Promise04RouteTest::numbers);
        Check.that("A new route (whatever others do)", Promise04RouteTest::whileOthersAreNotFree);
        Check.that("IndexOutOfBoundsException when approach is neither NONE nor a section",
                Promise04RouteTest::wrongApproach);
        Check.that("approach NONE (without any section)", Promise04RouteTest::noneWithoutSections);
        Check.that("approach a section (the first and the last)", Promise04RouteTest::everySectionMayBeAnApproach);
        Check.that("IllegalArgumentException when signal is not 0 .. 5", Promise04RouteTest::wrongSignal);
        Check.that("signal 0 .. 5", Promise04RouteTest::everySignal);
        Check.that("IllegalArgumentException when .. delay not 1 .. 9", Promise04RouteTest::wrongDelay);
        Check.that("delay 1 .. 9", Promise04RouteTest::everyDelay);
        Check.that("IllegalStateException when there are 8.", Promise04RouteTest::atMostEight);
        Check.that("IllegalStateException when there are 8. (again and again)", Promise04RouteTest::stillEight);
        Check.end();
    }

    private static void withoutUses() {
        RouteFrame frame = Layout.plainSections(1);
        frame.route(0, 0, 1);
        for (int what = 0; what <= 4; what++) {
            Check.is("about(0, " + what + ")", frame.about(0, what), 0);
        }
        Check.is("a new route has no pass", frame.request(0), 1);
        frame.use(0, 0, 0);
        frame.request(0);
        Check.is("its first use is the first", frame.about(0, Layout.HELD), 1);
    }

    private static void numbers() {
        RouteFrame frame = Layout.plainSections(1);
        for (int r = 0; r < 8; r++) {
            int route = r;
            Check.raisesIndex("before it is made, about(" + r + ", 0)", () -> frame.about(route, 0));
            Check.is("route", frame.route(0, 0, 1), r);
            Check.is("when it is made, about(" + r + ", 0)", frame.about(r, 0), 0);
        }
    }

    private static void whileOthersAreNotFree() {
        RouteFrame frame = Layout.oneEach(3);
        frame.request(0);
        frame.request(1);
        frame.request(2);
        frame.cancel(1);
        frame.occupy(2);
        Check.is("a route while others are set, timed and taken", frame.route(0, 2, 1), 3);
        Check.is("it is free", frame.about(3, Layout.STATE), Layout.FREE);
        Check.is("the set one", frame.about(0, Layout.STATE), Layout.SET);
        Check.is("the timed one", frame.about(1, Layout.STATE), Layout.TIMED);
        Check.is("the taken one", frame.about(2, Layout.STATE), Layout.TAKEN);
    }

    private static void wrongApproach() {
        for (int count : new int[] {0, 1, 2, 11, 12}) {
            for (int approach : Outside.of(-1, count - 1)) {
                RouteFrame frame = Layout.plainSections(count);
                Check.refusesIndex("approach " + approach + " of " + count, frame, () -> frame.route(0, approach, 1));
                Check.is("the next route", frame.route(0, Layout.NONE, 1), 0);
            }
        }
    }

    private static void noneWithoutSections() {
        RouteFrame frame = new RouteFrame();
        Check.is("route", frame.route(0, -1, 1), 0);
        Check.raisesIndex("approach 0", () -> frame.route(0, 0, 1));
    }

    private static void everySectionMayBeAnApproach() {
        for (int approach : new int[] {0, 1, 10, 11}) {
            RouteFrame frame = Layout.plainSections(12);
            frame.route(0, approach, 1);
            frame.use(0, 5, 0);
            frame.request(0);
            for (int s = 0; s < 12; s++) {
                if (s != approach && s != 5) {
                    frame.occupy(s);
                }
            }
            Check.is("approached with all but " + approach, frame.about(0, Layout.APPROACHED), 0);
            frame.occupy(approach);
            Check.is("approached with " + approach, frame.about(0, Layout.APPROACHED), 1);
        }
    }

    private static void wrongSignal() {
        for (int signal : Outside.of(0, 5)) {
            RouteFrame frame = Layout.sections(false, true);
            Check.refusesArgument("signal " + signal, frame, () -> frame.route(signal, 0, 1));
            Check.is("the next route", frame.route(0, 0, 1), 0);
        }
    }

    private static void everySignal() {
        for (int signal = 0; signal <= 5; signal++) {
            RouteFrame frame = Layout.plainSections(1);
            Check.is("route of signal " + signal, frame.route(signal, Layout.NONE, 1), 0);
            frame.use(0, 0, 0);
            frame.request(0);
            Check.is("off(" + signal + ")", frame.off(signal), true);
        }
    }

    private static void wrongDelay() {
        for (int delay : Outside.of(1, 9)) {
            RouteFrame frame = Layout.sections(false, true);
            Check.refusesArgument("delay " + delay, frame, () -> frame.route(0, 0, delay));
            Check.is("the next route", frame.route(0, 0, 1), 0);
        }
    }

    private static void everyDelay() {
        for (int delay = 1; delay <= 9; delay++) {
            RouteFrame frame = Layout.plainSections(1);
            Check.is("route of delay " + delay, frame.route(0, Layout.NONE, delay), 0);
            frame.use(0, 0, 0);
            frame.request(0);
            frame.cancel(0);
            Check.is("timer", frame.about(0, Layout.TIMER), delay);
        }
    }

    private static void atMostEight() {
        RouteFrame frame = Layout.plainSections(1);
        for (int r = 0; r < 8; r++) {
            Check.is("route", frame.route(r % 6, 0, r + 1), r);
        }
        Check.refusesState("a 9th route", frame, () -> frame.route(0, 0, 1));
        Check.is("routes after the 9th", Snapshot.countRoutes(frame), 8);
    }

    private static void stillEight() {
        RouteFrame frame = new RouteFrame();
        for (int r = 0; r < 8; r++) {
            frame.route(0, Layout.NONE, 1);
        }
        for (int i = 0; i < 400; i++) {
            Check.raisesState("one more route", () -> frame.route(5, Layout.NONE, 9));
        }
        Check.is("routes", Snapshot.countRoutes(frame), 8);
        frame.clear();
        Check.is("route after clear", frame.route(0, Layout.NONE, 1), 0);
    }
}
