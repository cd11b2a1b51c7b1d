public final class Promise12TickTest {
    public static void main(String[] args) {
        Check.that("Time goes on by n ticks (1 .. 20)", Promise12TickTest::everyNumberOfTicks);
        Check.that("with each, points that are moving have one less to go", Promise12TickTest::oneLessToGo);
        Check.that("points that are moving (occupied, broken or held)", Promise12TickTest::whateverHoldsThem);
        Check.that("points that are moving (not those that lie)", Promise12TickTest::thoseThatLieStay);
        Check.that("and then the timer of each route that is TIMED gets less by 1", Promise12TickTest::oneLess);
        Check.that("the timer of each route (for itself)", Promise12TickTest::eachTimerForItself);
        Check.that("each route that is TIMED (no other)", Promise12TickTest::onlyTimedRoutes);
        Check.that("at 0 it lets go of all and is free.", Promise12TickTest::freeAtZero);
        Check.that("at 0 (within many ticks)", Promise12TickTest::freeWithinManyTicks);
        Check.that("points and routes, each (of a full frame)", Promise12TickTest::ofAFullFrame);
        Check.that("IllegalArgumentException when n is not 1 .. 20.", Promise12TickTest::wrongNumber);
        Check.end();
    }

    private static void everyNumberOfTicks() {
        for (int n = 1; n <= 20; n++) {
            RouteFrame frame = Layout.plainSections(1);
            frame.section(true);
            frame.route(0, Layout.NONE, 9);
            frame.use(0, 0, 0);
            frame.request(0);
            frame.cancel(0);
            frame.move(1, 1);
            frame.tick(n);
            Check.is("timer after tick(" + n + ")", frame.about(0, Layout.TIMER), Math.max(0, 9 - n));
            Check.is("state after tick(" + n + ")", frame.about(0, Layout.STATE), n < 9 ? Layout.TIMED : Layout.FREE);
            Check.is("ticks to go after tick(" + n + ")", frame.track(1, Layout.TO_GO), Math.max(0, 3 - n));
            Check.is("how they lie after tick(" + n + ")", frame.track(1, Layout.LIE), n < 3 ? -1 : 1);
        }
    }

    private static void oneLessToGo() {
        RouteFrame frame = Layout.sections(true, true);
        frame.move(0, 1);
        frame.tick(1);
        frame.move(1, 1);
        Check.is("the first after 1", frame.track(0, Layout.TO_GO), 2);
        Check.is("the second after 0", frame.track(1, Layout.TO_GO), 3);
        frame.tick(1);
        Check.is("the first after 2", frame.track(0, Layout.TO_GO), 1);
        Check.is("the second after 1", frame.track(1, Layout.TO_GO), 2);
        frame.tick(1);
        Check.is("the first after 3", frame.track(0, Layout.LIE), 1);
        Check.is("the second after 2", frame.track(1, Layout.LIE), -1);
        frame.tick(1);
        Check.is("the second after 3", frame.track(1, Layout.LIE), 1);
    }

    private static void whateverHoldsThem() {
        RouteFrame frame = Layout.junction();
        frame.move(4, 1);
        frame.occupy(4);
        frame.breakPoints(4, true);
        frame.request(1);
        frame.tick(3);
        Check.is("occupied and broken points", frame.track(4, Layout.LIE), 1);
        Check.is("held points", frame.track(1, Layout.LIE), 1);
    }

    private static void thoseThatLieStay() {
        RouteFrame frame = Layout.sections(true, true);
        frame.move(1, 1);
        frame.tick(3);
        frame.tick(20);
        for (int s = 0; s < 2; s++) {
            Check.is("how they lie", frame.track(s, Layout.LIE), s);
            Check.is("wanted", frame.track(s, Layout.WANTED), s);
            Check.is("ticks to go", frame.track(s, Layout.TO_GO), 0);
        }
    }

    private static void oneLess() {
        RouteFrame frame = Layout.line();
        frame.request(0);
        frame.cancel(0);
        for (int timer = 3; timer >= 1; timer--) {
            frame.tick(1);
            Check.is("timer", frame.about(0, Layout.TIMER), timer);
            Check.is("state", frame.about(0, Layout.STATE), Layout.TIMED);
            Check.is("held", frame.about(0, Layout.HELD), 7);
            Check.is("approached", frame.about(0, Layout.APPROACHED), 1);
        }
    }

    private static void eachTimerForItself() {
        RouteFrame frame = Layout.plainSections(2);
        for (int r = 0; r < 2; r++) {
            frame.route(r, Layout.NONE, r == 0 ? 9 : 1);
            frame.use(r, r, 0);
        }
        for (int r = 0; r < 2; r++) {
            frame.request(r);
            frame.cancel(r);
        }
        frame.tick(1);
        Check.is("delay 9", frame.about(0, Layout.TIMER), 8);
        Check.is("delay 1", frame.about(1, Layout.STATE), Layout.FREE);
        frame.tick(7);
        Check.is("delay 9 after 8 ticks", frame.about(0, Layout.TIMER), 1);
        frame.tick(1);
        Check.is("delay 9 after 9 ticks", frame.about(0, Layout.STATE), Layout.FREE);
    }

    private static void onlyTimedRoutes() {
        RouteFrame frame = Layout.line();
        frame.tick(20);
        Check.is("a free route", frame.about(0, Layout.STATE), Layout.FREE);
        frame.request(0);
        frame.tick(20);
        Check.is("a set route", frame.about(0, Layout.STATE), Layout.SET);
        Check.is("has no timer", frame.about(0, Layout.TIMER), 0);
        frame.occupy(0);
        frame.tick(20);
        Check.is("a taken route", frame.about(0, Layout.STATE), Layout.TAKEN);
        Check.is("has no timer", frame.about(0, Layout.TIMER), 0);
    }

    private static void freeAtZero() {
        RouteFrame frame = Layout.junction();
        frame.occupy(0);
        frame.request(0);
        frame.cancel(0);
        frame.tick(2);
        Check.is("before the last tick", frame.about(0, Layout.STATE), Layout.TIMED);
        frame.tick(1);
        for (int what = 0; what <= 4; what++) {
            Check.is("about(0, " + what + ")", frame.about(0, what), 0);
        }
        Check.is("pass let go", frame.track(1, Layout.PASS_HOLDER), Layout.NONE);
        Check.is("flank let go", frame.track(4, Layout.FLANK_HOLDERS), 0);
        Check.is("to be set again", frame.request(0), 0);
    }

    private static void freeWithinManyTicks() {
        RouteFrame frame = Layout.line();
        frame.request(0);
        frame.cancel(0);
        frame.tick(20);
        for (int what = 0; what <= 4; what++) {
            Check.is("about(0, " + what + ")", frame.about(0, what), 0);
        }
    }

    private static void ofAFullFrame() {
        RouteFrame frame = Layout.full();
        frame.request(7);
        frame.tick(3);
        for (int s = 6; s < 12; s++) {
            Check.is("points of " + s, frame.track(s, Layout.LIE), 1);
        }
        Check.is("cancel(7)", frame.cancel(7), 1);
        frame.tick(8);
        Check.is("timer of the last route", frame.about(7, Layout.TIMER), 1);
        frame.tick(1);
        Check.is("the last route is free", frame.about(7, Layout.STATE), Layout.FREE);
    }

    private static void wrongNumber() {
        for (int n : Outside.of(1, 20)) {
            RouteFrame frame = Layout.junction();
            frame.request(1);
            frame.move(4, 1);
            frame.occupy(0);
            Check.refusesArgument("tick(" + n + ")", frame, () -> frame.tick(n));
        }
    }
}
