public final class Promise07CancelTest {
    public static void main(String[] args) {
        Check.that("Answers 0, when it lets go of all and is free", Promise07CancelTest::freeWhenNotApproached);
        Check.that("Answers 0 (its points are left where they go)", Promise07CancelTest::pointsGoOn);
        Check.that("Answers 0 (a train may stand elsewhere)", Promise07CancelTest::signalNeverOff);
        Check.that("1, when it is approached: it is TIMED then", Promise07CancelTest::timedWhenApproached);
        Check.that("its timer being its delay", Promise07CancelTest::timerIsItsDelay);
        Check.that("1, when it is approached (the train being gone)", Promise07CancelTest::theTrainIsGone);
        Check.that("2, refused, when it is not SET. (FREE)", Promise07CancelTest::refusedWhenFree);
        Check.that("2, refused, when it is not SET. (TAKEN)", Promise07CancelTest::refusedWhenTaken);
        Check.that("2, refused, when it is not SET. (TIMED)", Promise07CancelTest::refusedWhenTimed);
        Check.that("refused (it changes nothing)", Promise07CancelTest::refusedChangesNothing);
        Check.that("Takes a route back. (and no other)", Promise07CancelTest::othersStay);
        Check.that("IndexOutOfBoundsException when there is no such route.", Promise07CancelTest::noSuchRoute);
        Check.end();
    }

    private static void freeWhenNotApproached() {
        RouteFrame frame = Layout.junction();
        frame.request(0);
        Check.is("off, but the approach is clear", frame.off(0), true);
        Check.is("cancel(0)", frame.cancel(0), 0);
        for (int what = 0; what <= 4; what++) {
            Check.is("about(0, " + what + ")", frame.about(0, what), 0);
        }
        Check.is("pass let go", frame.track(1, Layout.PASS_HOLDER), Layout.NONE);
        Check.is("flank let go", frame.track(4, Layout.FLANK_HOLDERS), 0);
        Check.is("on", frame.off(0), false);
    }

    private static void pointsGoOn() {
        RouteFrame frame = Layout.junction();
        frame.request(1);
        frame.tick(1);
        Check.is("cancel(1)", frame.cancel(1), 0);
        Check.is("wanted", frame.track(1, Layout.WANTED), 1);
        Check.is("ticks to go", frame.track(1, Layout.TO_GO), 2);
    }

    private static void signalNeverOff() {
        RouteFrame frame = Layout.junction();
        frame.breakPoints(4, true);
        frame.request(0);
        frame.occupy(0);
        Check.is("a train is near, but the signal never was off", frame.cancel(0), 0);
    }

    private static void timedWhenApproached() {
        RouteFrame frame = Layout.junction();
        frame.occupy(0);
        frame.request(0);
        Check.is("cancel(0)", frame.cancel(0), 1);
        Check.is("state", frame.about(0, Layout.STATE), Layout.TIMED);
        Check.is("it holds all", frame.about(0, Layout.HELD), 7);
        Check.is("approached until it is free", frame.about(0, Layout.APPROACHED), 1);
        Check.is("on", frame.off(0), false);
    }

    private static void timerIsItsDelay() {
        for (int delay = 1; delay <= 9; delay++) {
            RouteFrame frame = Layout.plainSections(1);
            frame.route(0, Layout.NONE, delay);
            frame.use(0, 0, 0);
            for (int round = 0; round < 2; round++) {
                frame.request(0);
                Check.is("cancel(0)", frame.cancel(0), 1);
                Check.is("timer with delay " + delay, frame.about(0, Layout.TIMER), delay);
                frame.tick(delay);
                Check.is("free after it", frame.about(0, Layout.STATE), Layout.FREE);
            }
        }
    }

    private static void theTrainIsGone() {
        RouteFrame frame = Layout.junction();
        frame.request(0);
        frame.occupy(0);
        frame.vacate(0);
        frame.breakPoints(1, true);
        Check.is("cancel(0)", frame.cancel(0), 1);
        frame.tick(3);
        frame.breakPoints(1, false);
        frame.request(0);
        Check.is("approached anew only by a train", frame.cancel(0), 0);
    }

    private static void refusedWhenFree() {
        RouteFrame frame = Layout.line();
        Check.is("never set", frame.cancel(0), 2);
        frame.request(0);
        frame.cancel(0);
        frame.tick(4);
        Check.is("free again", frame.cancel(0), 2);
        Check.is("still free", frame.about(0, Layout.STATE), Layout.FREE);
    }

    private static void refusedWhenTaken() {
        RouteFrame frame = Layout.line();
        frame.request(0);
        frame.occupy(0);
        Check.is("cancel(0)", frame.cancel(0), 2);
        Check.is("it stays taken", frame.about(0, Layout.STATE), Layout.TAKEN);
        Check.is("without timer", frame.about(0, Layout.TIMER), 0);
        Check.is("and holds", frame.about(0, Layout.HELD), 7);
    }

    private static void refusedWhenTimed() {
        RouteFrame frame = Layout.line();
        frame.request(0);
        frame.cancel(0);
        frame.tick(1);
        Check.is("cancel(0)", frame.cancel(0), 2);
        Check.is("its timer goes on", frame.about(0, Layout.TIMER), 3);
        Check.is("it stays timed", frame.about(0, Layout.STATE), Layout.TIMED);
    }

    private static void refusedChangesNothing() {
        for (int r : new int[] {0, 2, 3, 4, 5, 6}) {
            Check.is("cancel(" + r + ")", Layout.busy().cancel(r), 2);
            Life.ofABusyFrameIsNotChangedBy("cancel(" + r + ")", frame -> frame.cancel(r));
        }
    }

    private static void othersStay() {
        RouteFrame frame = Layout.oneEach(3);
        for (int r = 0; r < 3; r++) {
            frame.request(r);
        }
        frame.cancel(1);
        Check.is("the one before", frame.about(0, Layout.STATE), Layout.SET);
        Check.is("the one behind", frame.about(2, Layout.STATE), Layout.SET);
    }

    private static void noSuchRoute() {
        for (int none : Outside.of(0, 1)) {
            RouteFrame frame = Layout.junction();
            frame.request(0);
            Check.refusesIndex("cancel(" + none + ")", frame, () -> frame.cancel(none));
        }
        RouteFrame full = Layout.full();
        full.request(7);
        for (int none : Outside.of(0, 7)) {
            Check.raisesIndex("cancel(" + none + ") of 8", () -> full.cancel(none));
        }
        Check.is("the last of 8", full.cancel(7), 0);
    }
}
