public final class Promise11BreakPointsTest {
    public static void main(String[] args) {
        Check.that("Points are broken", Promise11BreakPointsTest::broken);
        Check.that("or not any more.", Promise11BreakPointsTest::notAnyMore);
        Check.that("Points are broken (that are so; or not, that are not)", Promise11BreakPointsTest::again);
        Check.that("Points are broken (whatever they do)", Promise11BreakPointsTest::whateverTheyDo);
        Check.that("IndexOutOfBoundsException when there is no such section", Promise11BreakPointsTest::noSuchSection);
        Check.that("IllegalArgumentException when it has no points.", Promise11BreakPointsTest::noPoints);
        Check.end();
    }

    private static void broken() {
        RouteFrame frame = Layout.sections(true, true, true);
        frame.breakPoints(1, true);
        for (int s = 0; s < 3; s++) {
            Check.is("broken " + s, frame.track(s, Layout.BROKEN), s == 1 ? 1 : 0);
            Check.is("how " + s + " lie", frame.track(s, Layout.LIE), 0);
        }
        frame.tick(20);
        Check.is("broken as long as nothing is said", frame.track(1, Layout.BROKEN), 1);
    }

    private static void notAnyMore() {
        RouteFrame frame = Layout.sections(true, true);
        frame.breakPoints(0, true);
        frame.breakPoints(1, true);
        frame.breakPoints(0, false);
        Check.is("not any more", frame.track(0, Layout.BROKEN), 0);
        Check.is("the other still", frame.track(1, Layout.BROKEN), 1);
    }

    private static void again() {
        RouteFrame frame = Layout.sections(true);
        frame.breakPoints(0, false);
        Check.is("not broken", frame.track(0, Layout.BROKEN), 0);
        frame.breakPoints(0, true);
        frame.breakPoints(0, true);
        Check.is("broken twice", frame.track(0, Layout.BROKEN), 1);
        frame.breakPoints(0, false);
        Check.is("not any more", frame.track(0, Layout.BROKEN), 0);
    }

    private static void whateverTheyDo() {
        RouteFrame frame = Layout.junction();
        frame.request(1);
        frame.tick(1);
        frame.breakPoints(1, true);
        Check.is("held and on the way", frame.track(1, Layout.BROKEN), 1);
        Check.is("ticks to go", frame.track(1, Layout.TO_GO), 2);
        Check.is("the route stays set", frame.about(1, Layout.STATE), Layout.SET);
        frame.occupy(1);
        frame.breakPoints(1, false);
        Check.is("occupied", frame.track(1, Layout.BROKEN), 0);
        Check.is("the route stays taken", frame.about(1, Layout.STATE), Layout.TAKEN);
    }

    private static void noSuchSection() {
        for (int none : Outside.of(0, 4)) {
            RouteFrame frame = Layout.junction();
            Check.refusesIndex("breakPoints(" + none + ", true)", frame, () -> frame.breakPoints(none, true));
            Check.raisesIndex("breakPoints(" + none + ", false)", () -> frame.breakPoints(none, false));
        }
        RouteFrame full = Layout.full();
        for (int none : Outside.of(0, 11)) {
            Check.raisesIndex("breakPoints(" + none + ", true) of 12", () -> full.breakPoints(none, true));
        }
        full.breakPoints(11, true);
        Check.is("the last of 12", full.track(11, Layout.BROKEN), 1);
    }

    private static void noPoints() {
        for (boolean broken : new boolean[] {true, false}) {
            RouteFrame frame = Layout.junction();
            Check.refusesArgument("breakPoints(0, " + broken + ")", frame, () -> frame.breakPoints(0, broken));
        }
    }
}
