public final class Promise08OccupyTest {
    public static void main(String[] args) {
        Check.that("A section becomes occupied", Promise08OccupyTest::becomesOccupied);
        Check.that("A section becomes occupied (by force, whatever holds it)", Promise08OccupyTest::whateverHoldsIt);
        Check.that("false when it is.", Promise08OccupyTest::falseWhenItIs);
        Check.that("false when it is. (it changes nothing)", Promise08OccupyTest::refusedChangesNothing);
        Check.that("IndexOutOfBoundsException when there is no such section.", Promise08OccupyTest::noSuchSection);
        Check.end();
    }

    private static void becomesOccupied() {
        for (int s = 0; s < 12; s++) {
            RouteFrame frame = Layout.full();
            Check.is("occupy(" + s + ")", frame.occupy(s), true);
            for (int other = 0; other < 12; other++) {
                Check.is("occupied " + other, frame.track(other, Layout.OCCUPIED), other == s ? 1 : 0);
            }
        }
    }

    private static void whateverHoldsIt() {
        RouteFrame frame = Layout.junction();
        frame.request(0);
        for (int s = 0; s < 5; s++) {
            Check.is("occupy(" + s + ")", frame.occupy(s), true);
            Check.is("occupied", frame.track(s, Layout.OCCUPIED), 1);
        }
    }

    private static void falseWhenItIs() {
        RouteFrame frame = Layout.sections(false, true);
        for (int s = 0; s < 2; s++) {
            Check.is("occupy(" + s + ")", frame.occupy(s), true);
            Check.is("occupy(" + s + ") again", frame.occupy(s), false);
            Check.is("and again", frame.occupy(s), false);
            Check.is("still occupied", frame.track(s, Layout.OCCUPIED), 1);
            frame.vacate(s);
            Check.is("when it has been clear", frame.occupy(s), true);
        }
    }

    private static void refusedChangesNothing() {
        for (int s : new int[] {1, 11}) {
            Check.is("occupy(" + s + ")", Layout.busy().occupy(s), false);
            Life.ofABusyFrameIsNotChangedBy("occupy(" + s + ")", frame -> frame.occupy(s));
        }
    }

    private static void noSuchSection() {
        for (int none : Outside.of(0, 4)) {
            RouteFrame frame = Layout.junction();
            Check.refusesIndex("occupy(" + none + ")", frame, () -> frame.occupy(none));
        }
        RouteFrame full = Layout.full();
        for (int none : Outside.of(0, 11)) {
            Check.raisesIndex("occupy(" + none + ") of 12", () -> full.occupy(none));
        }
        Check.is("the last of 12", full.occupy(11), true);
    }
}
