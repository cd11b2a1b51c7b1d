/** The section "Terms" of the document: sections and their points. */
public final class TermsSectionsTest {
    public static void main(String[] args) {
        Check.that("SECTIONS are 0 .. (at most 12)", TermsSectionsTest::zeroToEleven);
        Check.that("each is CLEAR (at first)", TermsSectionsTest::clearAtFirst);
        Check.that("POINTS, which LIE in position 0 (at first)", TermsSectionsTest::lieInZeroAtFirst);
        Check.that("a position that is WANTED (0 at first)", TermsSectionsTest::zeroWantedAtFirst);
        Check.that("may be BROKEN (at first not)", TermsSectionsTest::notBrokenAtFirst);
        Check.that("MOVING: they lie between, and have so many TICKS to go", TermsSectionsTest::moving);
        Check.that("3 from when the position was wanted", TermsSectionsTest::threeTicks);
        Check.that("3 from when the position was wanted (another one meanwhile)", TermsSectionsTest::threeTicksAnew);
        Check.that("when there are none to go, they lie there.", TermsSectionsTest::lieThere);
        Check.that("FOUND in a position when they lie in it", TermsSectionsTest::foundWhenTheyLieThere);
        Check.that("FOUND in a position when they .. are not broken.", TermsSectionsTest::notFoundWhenBroken);
        Check.end();
    }

    private static void zeroToEleven() {
        RouteFrame frame = Layout.sections(new boolean[] {
            true, true, true, true, true, true, true, true, true, true, true, true});
        for (int s : new int[] {0, 11}) {
            Check.is("occupy(" + s + ")", frame.occupy(s), true);
            Check.is("vacate(" + s + ")", frame.vacate(s), true);
            Check.is("move(" + s + ", 1)", frame.move(s, 1), true);
            frame.breakPoints(s, true);
            Check.is("track(" + s + ", 6)", frame.track(s, Layout.BROKEN), 1);
        }
        Check.is("approach 0", frame.route(0, 0, 1), 0);
        Check.is("approach 11", frame.route(1, 11, 1), 1);
        frame.use(0, 0, 1);
        frame.use(0, 11, 2);
        Check.is("request", frame.request(0), 0);
        for (int s : new int[] {-1, 12}) {
            Check.raisesIndex("occupy(" + s + ")", () -> frame.occupy(s));
            Check.raisesIndex("vacate(" + s + ")", () -> frame.vacate(s));
            Check.raisesIndex("move(" + s + ", 1)", () -> frame.move(s, 1));
            Check.raisesIndex("breakPoints(" + s + ", true)", () -> frame.breakPoints(s, true));
            Check.raisesIndex("track(" + s + ", 6)", () -> frame.track(s, 6));
            Check.raisesIndex("use(1, " + s + ", 1)", () -> frame.use(1, s, 1));
        }
        Check.raisesIndex("approach 12", () -> frame.route(0, 12, 1));
    }

    private static void clearAtFirst() {
        expectAtFirst(Layout.OCCUPIED);
    }

    private static void lieInZeroAtFirst() {
        expectAtFirst(Layout.LIE);
    }

    private static void zeroWantedAtFirst() {
        expectAtFirst(Layout.WANTED);
        expectAtFirst(Layout.TO_GO);
    }

    private static void notBrokenAtFirst() {
        expectAtFirst(Layout.BROKEN);
    }

    private static void expectAtFirst(int what) {
        RouteFrame frame = new RouteFrame();
        for (int s = 0; s < 12; s++) {
            frame.section(s % 2 == 0);
            Check.is("track(" + s + ", " + what + ")", frame.track(s, what), 0);
        }
    }

    private static void moving() {
        for (int from = 0; from <= 1; from++) {
            RouteFrame frame = lyingIn(from);
            frame.move(0, 1 - from);
            for (int toGo = 3; toGo >= 1; toGo--) {
                expectPoints(frame, -1, 1 - from, toGo);
                frame.tick(1);
            }
        }
    }

    private static void threeTicks() {
        for (int later : new int[] {1, 2, 3, 20}) {
            RouteFrame frame = Layout.sections(true);
            frame.tick(later);
            frame.move(0, 1);
            frame.tick(2);
            expectPoints(frame, -1, 1, 1);
            frame.tick(1);
            expectPoints(frame, 1, 1, 0);
        }
    }

    private static void threeTicksAnew() {
        for (int ticks = 1; ticks <= 2; ticks++) {
            RouteFrame frame = Layout.sections(true);
            frame.move(0, 1);
            frame.tick(ticks);
            frame.move(0, 0);
            expectPoints(frame, -1, 0, 3);
            frame.tick(1);
            frame.move(0, 1);
            expectPoints(frame, -1, 1, 3);
            frame.tick(2);
            expectPoints(frame, -1, 1, 1);
            frame.tick(1);
            expectPoints(frame, 1, 1, 0);
        }
    }

    private static void lieThere() {
        for (int from = 0; from <= 1; from++) {
            for (int n = 3; n <= 20; n++) {
                RouteFrame frame = lyingIn(from);
                frame.move(0, 1 - from);
                frame.tick(n);
                expectPoints(frame, 1 - from, 1 - from, 0);
            }
        }
    }

    private static void foundWhenTheyLieThere() {
        for (int how = 1; how <= 4; how++) {
            int position = (how - 1) % 2;
            RouteFrame frame = Layout.overPoints(how);
            frame.move(0, 1 - position);
            frame.tick(3);
            frame.request(0);
            Check.is("at once, how " + how, frame.off(0), false);
            frame.tick(2);
            Check.is("between, how " + how, frame.off(0), false);
            frame.tick(1);
            Check.is("there, how " + how, frame.off(0), true);
        }
    }

    private static void notFoundWhenBroken() {
        for (int how = 1; how <= 4; how++) {
            RouteFrame frame = Layout.overPoints(how);
            frame.request(0);
            frame.tick(3);
            frame.breakPoints(0, true);
            Check.is("broken, how " + how, frame.off(0), false);
            frame.breakPoints(0, false);
            Check.is("mended, how " + how, frame.off(0), true);
        }
    }

    private static RouteFrame lyingIn(int position) {
        RouteFrame frame = Layout.sections(true);
        frame.move(0, position);
        frame.tick(3);
        return frame;
    }

    private static void expectPoints(RouteFrame frame, int lie, int wanted, int toGo) {
        Check.is("how they lie", frame.track(0, Layout.LIE), lie);
        Check.is("wanted", frame.track(0, Layout.WANTED), wanted);
        Check.is("ticks to go", frame.track(0, Layout.TO_GO), toGo);
    }
}
