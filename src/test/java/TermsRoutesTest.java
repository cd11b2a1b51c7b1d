/** The section "Terms" of the document: routes and their uses. */
public final class TermsRoutesTest {
    public static void main(String[] args) {
        Check.that("ROUTES are 0 .. (at most 8).", TermsRoutesTest::zeroToSeven);
        Check.that("up to 6 USES in their order (0 .. 6 of them)", TermsRoutesTest::upToSix);
        Check.that("0 PASS (for a section without points)", TermsRoutesTest::passWithoutPoints);
        Check.that("1 PASS with points in 0", () -> pass(1, 0));
        Check.that("2 PASS with points in 1", () -> pass(2, 1));
        Check.that("3 FLANK, points in 0", () -> flank(3, 0));
        Check.that("4 FLANK, points in 1.", () -> flank(4, 1));
        Check.that("A route is FREE 0 (at first)", TermsRoutesTest::freeAtFirst);
        Check.that("It HOLDS all its uses from when it is set on", TermsRoutesTest::holdsAll);
        Check.that("HOLDS .. each until it lets go of it. (TIMED or TAKEN too)", TermsRoutesTest::holdsUntil);
        Check.that("A use of which it holds may be RUN OVER.", TermsRoutesTest::runOver);
        Check.end();
    }

    private static void zeroToSeven() {
        RouteFrame frame = Layout.plainSections(8);
        for (int r = 0; r < 8; r++) {
            frame.route(r % 6, Layout.NONE, 9);
        }
        for (int r : new int[] {0, 7}) {
            frame.use(r, r, 0);
        }
        for (int r : new int[] {0, 7}) {
            Check.is("request(" + r + ")", frame.request(r), 0);
            Check.is("about(" + r + ", 0)", frame.about(r, Layout.STATE), Layout.SET);
            Check.is("cancel(" + r + ")", frame.cancel(r), 1);
        }
        Check.is("clash(0, 7)", frame.clash(0, 7), false);
        for (int r : new int[] {-1, 8}) {
            Check.raisesIndex("use(" + r + ", 0, 0)", () -> frame.use(r, 0, 0));
            Check.raisesIndex("request(" + r + ")", () -> frame.request(r));
            Check.raisesIndex("cancel(" + r + ")", () -> frame.cancel(r));
            Check.raisesIndex("about(" + r + ", 0)", () -> frame.about(r, 0));
            Check.raisesIndex("clash(0, " + r + ")", () -> frame.clash(0, r));
        }
    }

    private static void upToSix() {
        for (int count = 0; count <= 6; count++) {
            RouteFrame frame = Layout.plainSections(7);
            frame.route(0, Layout.NONE, 1);
            for (int k = 0; k < count; k++) {
                frame.use(0, 6 - k, 0);
            }
            Check.is("request with " + count, frame.request(0), count == 0 ? 1 : 0);
            Check.is("held with " + count, frame.about(0, Layout.HELD), (1 << count) - 1);
            for (int k = 0; k < count; k++) {
                frame.occupy(6 - k);
                Check.is("run over in their order", frame.about(0, Layout.RUN_OVER), 1 << k);
                frame.vacate(6 - k);
            }
            Check.is("free behind them", frame.about(0, Layout.STATE), Layout.FREE);
        }
    }

    private static void passWithoutPoints() {
        RouteFrame frame = Layout.plainSections(1);
        frame.route(0, Layout.NONE, 1);
        frame.use(0, 0, 0);
        Check.is("a pass is enough", frame.request(0), 0);
        Check.is("pass", frame.track(0, Layout.PASS_HOLDER), 0);
        Check.is("flank", frame.track(0, Layout.FLANK_HOLDERS), 0);
        Check.is("nothing is wanted", frame.track(0, Layout.WANTED), 0);
        frame.occupy(0);
        Check.is("run over", frame.about(0, Layout.RUN_OVER), 1);
    }

    private static void pass(int how, int position) {
        RouteFrame frame = lyingOtherwise(how, position);
        Check.is("a pass is enough", frame.request(0), 0);
        Check.is("pass", frame.track(0, Layout.PASS_HOLDER), 0);
        Check.is("flank", frame.track(0, Layout.FLANK_HOLDERS), 0);
        Check.is("wanted", frame.track(0, Layout.WANTED), position);
        frame.occupy(0);
        Check.is("run over", frame.about(0, Layout.RUN_OVER), 1);
    }

    private static void flank(int how, int position) {
        RouteFrame frame = lyingOtherwise(how, position);
        Check.is("a flank is no pass", frame.request(0), 1);
        frame.section(false);
        frame.use(0, 1, 0);
        Check.is("request with a pass beside it", frame.request(0), 0);
        Check.is("pass", frame.track(0, Layout.PASS_HOLDER), Layout.NONE);
        Check.is("flank", frame.track(0, Layout.FLANK_HOLDERS), 1);
        Check.is("wanted", frame.track(0, Layout.WANTED), position);
        frame.occupy(0);
        Check.is("never run over", frame.about(0, Layout.RUN_OVER), 0);
    }

    private static RouteFrame lyingOtherwise(int how, int position) {
        RouteFrame frame = Layout.sections(true);
        frame.route(0, Layout.NONE, 1);
        frame.use(0, 0, how);
        frame.move(0, 1 - position);
        frame.tick(3);
        return frame;
    }

    private static void freeAtFirst() {
        RouteFrame frame = new RouteFrame();
        for (int r = 0; r < 8; r++) {
            frame.route(r % 6, Layout.NONE, 1);
            Check.is("state of " + r, frame.about(r, Layout.STATE), 0);
        }
    }

    private static void holdsAll() {
        RouteFrame frame = Layout.junction();
        Check.is("before", frame.about(0, Layout.HELD), 0);
        frame.request(0);
        Check.is("from when it is set on", frame.about(0, Layout.HELD), 7);
        Check.is("first pass", frame.track(1, Layout.PASS_HOLDER), 0);
        Check.is("flank", frame.track(4, Layout.FLANK_HOLDERS), 1);
        Check.is("last pass", frame.track(2, Layout.PASS_HOLDER), 0);
    }

    private static void holdsUntil() {
        RouteFrame frame = Layout.junction();
        frame.occupy(0);
        frame.request(0);
        frame.cancel(0);
        Check.is("timed", frame.about(0, Layout.HELD), 7);
        frame.tick(2);
        Check.is("before its last tick", frame.about(0, Layout.HELD), 7);
        frame.occupy(1);
        Check.is("taken", frame.about(0, Layout.HELD), 7);
        frame.tick(20);
        Check.is("taken, later", frame.about(0, Layout.HELD), 7);
        frame.vacate(1);
        Check.is("the first is let go", frame.about(0, Layout.HELD), 6);
        frame.occupy(2);
        frame.vacate(2);
        Check.is("all are let go", frame.about(0, Layout.HELD), 0);
    }

    private static void runOver() {
        RouteFrame frame = Layout.line();
        frame.occupy(1);
        Check.is("a use that is not held", frame.about(0, Layout.RUN_OVER), 0);
        frame.vacate(1);
        frame.request(0);
        Check.is("not by an earlier train", frame.about(0, Layout.RUN_OVER), 0);
        frame.occupy(1);
        Check.is("a use that is held", frame.about(0, Layout.RUN_OVER), 2);
        frame.vacate(1);
        Check.is("still, while it is held", frame.about(0, Layout.RUN_OVER), 2);
    }
}
