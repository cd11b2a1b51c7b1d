public final class Promise02ClearTest {
    public static void main(String[] args) {
        Check.that("All sections go.", Promise02ClearTest::sectionsGo);
        Check.that("All routes go.", Promise02ClearTest::routesGo);
        Check.that("All sections and routes go. (there is room for 12 and 8 again)", Promise02ClearTest::roomAgain);
        Check.that("All sections go. (none of their state stays)", Promise02ClearTest::newSectionsAreNew);
        Check.that("All routes go. (none of their state stays)", Promise02ClearTest::newRoutesAreNew);
        Check.that("All sections and routes go. (of none)", Promise02ClearTest::clearOfNothing);
        Check.end();
    }

    private static void sectionsGo() {
        RouteFrame frame = Layout.busy();
        frame.clear();
        for (int s = 0; s < 12; s++) {
            int section = s;
            Check.raisesIndex("track(" + s + ", 0)", () -> frame.track(section, 0));
            Check.raisesIndex("occupy(" + s + ")", () -> frame.occupy(section));
            Check.raisesIndex("approach " + s, () -> frame.route(0, section, 1));
        }
        Check.is("the next section", frame.section(false), 0);
    }

    private static void routesGo() {
        RouteFrame frame = Layout.busy();
        Check.is("off(5) before", frame.off(5), true);
        frame.clear();
        for (int r = 0; r < 8; r++) {
            int route = r;
            Check.raisesIndex("about(" + r + ", 0)", () -> frame.about(route, 0));
            Check.raisesIndex("request(" + r + ")", () -> frame.request(route));
        }
        for (int signal = 0; signal <= 5; signal++) {
            Check.is("off(" + signal + ")", frame.off(signal), false);
        }
        Check.is("the next route", frame.route(0, Layout.NONE, 1), 0);
    }

    private static void roomAgain() {
        RouteFrame frame = Layout.full();
        frame.clear();
        for (int s = 0; s < 12; s++) {
            Check.is("section", frame.section(true), s);
        }
        Check.raisesState("a 13th section", () -> frame.section(true));
        for (int r = 0; r < 8; r++) {
            Check.is("route", frame.route(0, 11, 1), r);
        }
        Check.raisesState("a 9th route", () -> frame.route(0, 11, 1));
        for (int s = 0; s < 6; s++) {
            frame.use(7, s, 1);
        }
        Check.raisesState("a 7th use", () -> frame.use(7, 6, 1));
    }

    /** Kinds are turned round, so that plain sections stand where points were broken, moving or in 1. */
    private static void newSectionsAreNew() {
        for (int turn = 0; turn <= 1; turn++) {
            RouteFrame frame = Layout.busy();
            frame.tick(1);
            frame.clear();
            RouteFrame fresh = new RouteFrame();
            for (int s = 0; s < 12; s++) {
                frame.section(s % 2 == turn);
                fresh.section(s % 2 == turn);
            }
            Check.is("12 sections", Snapshot.of(frame), Snapshot.of(fresh));
            frame.tick(1);
            fresh.tick(1);
            Check.is("a tick later", Snapshot.of(frame), Snapshot.of(fresh));
        }
    }

    private static void newRoutesAreNew() {
        RouteFrame frame = Layout.busy();
        frame.clear();
        RouteFrame fresh = new RouteFrame();
        for (RouteFrame one : new RouteFrame[] {frame, fresh}) {
            for (int s = 0; s < 12; s++) {
                one.section(false);
            }
            for (int r = 0; r < 8; r++) {
                one.route(r % 6, r, 8);
            }
        }
        Check.is("8 routes", Snapshot.of(frame), Snapshot.of(fresh));
        for (int r = 0; r < 8; r++) {
            Check.is("without uses, request(" + r + ")", frame.request(r), 1);
        }
        frame.use(2, 11, 0);
        Check.is("request(2)", frame.request(2), 0);
        Check.is("held", frame.about(2, Layout.HELD), 1);
        Check.is("not approached by what was", frame.about(2, Layout.APPROACHED), 0);
        frame.tick(20);
        Check.is("no timer of what was", frame.about(2, Layout.STATE), Layout.SET);
    }

    private static void clearOfNothing() {
        RouteFrame frame = new RouteFrame();
        frame.clear();
        frame.clear();
        Check.is("after two clears", Snapshot.of(frame), Snapshot.of(new RouteFrame()));
        Check.is("section", frame.section(false), 0);
        Check.is("route", frame.route(0, 0, 1), 0);
    }
}
