public final class Promise09VacateTest {
    public static void main(String[] args) {
        Check.that("A section becomes clear", Promise09VacateTest::becomesClear);
        Check.that("false when it is.", Promise09VacateTest::falseWhenItIs);
        Check.that("false when it is. (it changes nothing)", Promise09VacateTest::refusedChangesNothing);
        Check.that("IndexOutOfBoundsException when there is no such section.", Promise09VacateTest::noSuchSection);
        Check.end();
    }

    private static void becomesClear() {
        for (int s = 0; s < 12; s++) {
            RouteFrame frame = Layout.full();
            for (int other = 0; other < 12; other++) {
                frame.occupy(other);
            }
            Check.is("vacate(" + s + ")", frame.vacate(s), true);
            for (int other = 0; other < 12; other++) {
                Check.is("occupied " + other, frame.track(other, Layout.OCCUPIED), other == s ? 0 : 1);
            }
        }
    }

    private static void falseWhenItIs() {
        RouteFrame frame = Layout.sections(false, true);
        for (int s = 0; s < 2; s++) {
            Check.is("vacate(" + s + ") at first", frame.vacate(s), false);
            frame.occupy(s);
            Check.is("vacate(" + s + ")", frame.vacate(s), true);
            Check.is("vacate(" + s + ") again", frame.vacate(s), false);
            Check.is("still clear", frame.track(s, Layout.OCCUPIED), 0);
        }
    }

    private static void refusedChangesNothing() {
        for (int s : new int[] {0, 2, 3, 4, 5, 10}) {
            Check.is("vacate(" + s + ")", Layout.busy().vacate(s), false);
            Life.ofABusyFrameIsNotChangedBy("vacate(" + s + ")", frame -> frame.vacate(s));
        }
    }

    private static void noSuchSection() {
        for (int none : Outside.of(0, 4)) {
            RouteFrame frame = Layout.junction();
            Check.refusesIndex("vacate(" + none + ")", frame, () -> frame.vacate(none));
        }
        RouteFrame full = Layout.full();
        full.occupy(11);
        for (int none : Outside.of(0, 11)) {
            Check.raisesIndex("vacate(" + none + ") of 12", () -> full.vacate(none));
        }
        Check.is("the last of 12", full.vacate(11), true);
    }
}
