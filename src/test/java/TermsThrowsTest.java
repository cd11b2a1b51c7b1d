import java.util.function.Consumer;

/** The end of the section "Terms" of the document: calls that throw, and which exception they throw. */
public final class TermsThrowsTest {
    public static void main(String[] args) {
        Check.that("A call that throws changes nothing (of a busy frame)", TermsThrowsTest::ofABusyFrame);
        Check.that("A call that throws changes nothing (of a frame with room)", TermsThrowsTest::ofAFrameWithRoom);
        Check.that("A call that throws changes nothing (of a route with 6 uses)", TermsThrowsTest::ofSixUses);
        Check.that("the one named first is thrown (route: index before argument)", TermsThrowsTest::routeIndexArgument);
        Check.that("the one named first is thrown (route: index before state)", TermsThrowsTest::routeIndexState);
        Check.that("the one named first is thrown (route: argument before state)", TermsThrowsTest::routeArgumentState);
        Check.that("the one named first is thrown (use: index before argument)", TermsThrowsTest::useIndexArgument);
        Check.that("the one named first is thrown (use: index before state)", TermsThrowsTest::useIndexState);
        Check.that("the one named first is thrown (use: argument before state)", TermsThrowsTest::useArgumentState);
        Check.that("the one named first is thrown (move: index before argument)", TermsThrowsTest::moveIndexArgument);
        Check.that("the one named first is thrown (about: index before argument)", TermsThrowsTest::aboutIndexArgument);
        Check.that("the one named first is thrown (track: index before argument)", TermsThrowsTest::trackIndexArgument);
        Check.end();
    }

    private static void ofABusyFrame() {
        index("route(0, 12, 1)", f -> f.route(0, 12, 1));
        argument("route(6, 0, 1)", f -> f.route(6, 0, 1));
        argument("route(0, 0, 0)", f -> f.route(0, 0, 0));
        state("route(0, 0, 1)", f -> f.route(0, 0, 1));
        state("section(false)", f -> f.section(false));
        state("section(true)", f -> f.section(true));
        index("use(8, 8, 0)", f -> f.use(8, 8, 0));
        index("use(5, 12, 0)", f -> f.use(5, 12, 0));
        argument("use(5, 8, 5)", f -> f.use(5, 8, 5));
        argument("use(5, 8, 1)", f -> f.use(5, 8, 1));
        argument("use(5, 5, 0)", f -> f.use(5, 5, 0));
        argument("use(0, 2, 0)", f -> f.use(0, 2, 0));
        state("use(4, 10, 0)", f -> f.use(4, 10, 0));
        state("use(5, 8, 0)", f -> f.use(5, 8, 0));
        index("request(8)", f -> f.request(8));
        index("cancel(8)", f -> f.cancel(8));
        index("occupy(12)", f -> f.occupy(12));
        index("vacate(12)", f -> f.vacate(12));
        index("move(12, 0)", f -> f.move(12, 0));
        argument("move(8, 1)", f -> f.move(8, 1));
        argument("move(5, 2)", f -> f.move(5, 2));
        index("breakPoints(12, true)", f -> f.breakPoints(12, true));
        argument("breakPoints(8, true)", f -> f.breakPoints(8, true));
        argument("tick(0)", f -> f.tick(0));
        argument("tick(21)", f -> f.tick(21));
        index("off(6)", f -> f.off(6));
        index("clash(0, 8)", f -> f.clash(0, 8));
        index("clash(8, 0)", f -> f.clash(8, 0));
        index("about(8, 0)", f -> f.about(8, 0));
        argument("about(0, 5)", f -> f.about(0, 5));
        index("track(12, 0)", f -> f.track(12, 0));
        argument("track(0, 7)", f -> f.track(0, 7));
    }

    private static void index(String what, Consumer<RouteFrame> call) {
        RouteFrame frame = Layout.busy();
        Check.raisesIndex(what, () -> call.accept(frame));
        Life.ofABusyFrameIsNotChangedBy(what, call);
    }

    private static void argument(String what, Consumer<RouteFrame> call) {
        RouteFrame frame = Layout.busy();
        Check.raisesArgument(what, () -> call.accept(frame));
        Life.ofABusyFrameIsNotChangedBy(what, call);
    }

    private static void state(String what, Consumer<RouteFrame> call) {
        RouteFrame frame = Layout.busy();
        Check.raisesState(what, () -> call.accept(frame));
        Life.ofABusyFrameIsNotChangedBy(what, call);
    }

    private static void ofAFrameWithRoom() {
        Life.ofAFrameWithRoomIsNotChangedBy("route(0, 5, 1)", f -> f.route(0, 5, 1));
        Life.ofAFrameWithRoomIsNotChangedBy("route(0, -2, 1)", f -> f.route(0, -2, 1));
        Life.ofAFrameWithRoomIsNotChangedBy("route(6, 0, 1)", f -> f.route(6, 0, 1));
        Life.ofAFrameWithRoomIsNotChangedBy("route(-1, 0, 1)", f -> f.route(-1, 0, 1));
        Life.ofAFrameWithRoomIsNotChangedBy("route(0, 0, 10)", f -> f.route(0, 0, 10));
        Life.ofAFrameWithRoomIsNotChangedBy("route(0, 0, 0)", f -> f.route(0, 0, 0));
        Life.ofAFrameWithRoomIsNotChangedBy("use(2, 0, 0)", f -> f.use(2, 0, 0));
        Life.ofAFrameWithRoomIsNotChangedBy("use(0, 5, 0)", f -> f.use(0, 5, 0));
        Life.ofAFrameWithRoomIsNotChangedBy("use(0, 3, 5)", f -> f.use(0, 3, 5));
        Life.ofAFrameWithRoomIsNotChangedBy("use(0, 3, 1)", f -> f.use(0, 3, 1));
        Life.ofAFrameWithRoomIsNotChangedBy("use(1, 4, 0)", f -> f.use(1, 4, 0));
        Life.ofAFrameWithRoomIsNotChangedBy("use(0, 1, 4)", f -> f.use(0, 1, 4));
        Life.ofAFrameWithRoomIsNotChangedBy("move(1, 2)", f -> f.move(1, 2));
        Life.ofAFrameWithRoomIsNotChangedBy("move(0, 1)", f -> f.move(0, 1));
        Life.ofAFrameWithRoomIsNotChangedBy("breakPoints(0, true)", f -> f.breakPoints(0, true));
        Life.ofAFrameWithRoomIsNotChangedBy("occupy(5)", f -> f.occupy(5));
        Life.ofAFrameWithRoomIsNotChangedBy("tick(21)", f -> f.tick(21));
    }

    private static void ofSixUses() {
        Life.ofSixUsesIsNotChangedBy("use(0, 6, 2)", f -> f.use(0, 6, 2));
        Life.ofSixUsesIsNotChangedBy("use(0, 5, 0)", f -> f.use(0, 5, 0));
        Life.ofSixUsesIsNotChangedBy("use(0, 6, 0)", f -> f.use(0, 6, 0));
    }

    private static void routeIndexArgument() {
        RouteFrame frame = Layout.plainSections(1);
        Check.refusesIndex("a wrong signal too", frame, () -> frame.route(6, 1, 1));
        Check.refusesIndex("a wrong delay too", frame, () -> frame.route(0, 1, 0));
        Check.refusesIndex("both too", frame, () -> frame.route(-1, -2, 10));
    }

    private static void routeIndexState() {
        RouteFrame frame = eightRoutes();
        Check.refusesIndex("8 routes too", frame, () -> frame.route(0, 1, 1));
        RouteFrame all = eightRoutes();
        Check.refusesIndex("8 routes and a wrong signal too", all, () -> all.route(6, 1, 1));
    }

    private static void routeArgumentState() {
        RouteFrame frame = eightRoutes();
        Check.refusesArgument("a wrong signal", frame, () -> frame.route(6, 0, 1));
        RouteFrame other = eightRoutes();
        Check.refusesArgument("a wrong delay", other, () -> other.route(0, 0, 10));
    }

    private static RouteFrame eightRoutes() {
        RouteFrame frame = Layout.plainSections(1);
        for (int r = 0; r < 8; r++) {
            frame.route(0, 0, 1);
        }
        return frame;
    }

    private static void useIndexArgument() {
        RouteFrame frame = Layout.sixUses();
        Check.refusesIndex("no section, wrong how", frame, () -> frame.use(0, 7, 9));
        Check.refusesIndex("no route, wrong how", frame, () -> frame.use(1, 0, 9));
        Check.raisesIndex("no route, how does not fit", () -> frame.use(1, 0, 1));
        Check.raisesIndex("no route and no section", () -> frame.use(-1, -1, -1));
    }

    private static void useIndexState() {
        RouteFrame frame = Layout.sixUses();
        Check.refusesIndex("no section, 6 uses", frame, () -> frame.use(0, 7, 0));
        frame.request(0);
        Check.refusesIndex("no section, not free", frame, () -> frame.use(0, 7, 0));
        Check.raisesIndex("no route, not free", () -> frame.use(1, 6, 1));
        Check.raisesIndex("no section, wrong how, not free", () -> frame.use(0, 7, 9));
    }

    private static void useArgumentState() {
        RouteFrame frame = Layout.sixUses();
        Check.raisesArgument("wrong how, 6 uses", () -> frame.use(0, 6, 5));
        Check.raisesArgument("how does not fit, 6 uses", () -> frame.use(0, 6, 0));
        Check.raisesArgument("the same section, 6 uses", () -> frame.use(0, 5, 0));
        frame.route(1, Layout.NONE, 1);
        frame.request(0);
        Check.raisesArgument("wrong how, another is not free", () -> frame.use(1, 0, -1));
        Check.raisesArgument("how does not fit, another is not free", () -> frame.use(1, 0, 1));
        Check.raisesArgument("the same section, not free", () -> frame.use(0, 0, 0));
        Check.raisesState("nothing wrong, another is not free", () -> frame.use(1, 0, 0));
    }

    private static void moveIndexArgument() {
        RouteFrame frame = Layout.junction();
        Check.refusesIndex("no section, wrong position", frame, () -> frame.move(5, 2));
        Check.raisesIndex("no section, wrong position", () -> frame.move(-1, -1));
    }

    private static void aboutIndexArgument() {
        RouteFrame frame = Layout.junction();
        Check.refusesIndex("no route, wrong what", frame, () -> frame.about(2, 5));
        Check.raisesIndex("no route, wrong what", () -> frame.about(-1, -1));
    }

    private static void trackIndexArgument() {
        RouteFrame frame = Layout.junction();
        Check.refusesIndex("no section, wrong what", frame, () -> frame.track(5, 7));
        Check.raisesIndex("no section, wrong what", () -> frame.track(-1, -1));
    }
}
