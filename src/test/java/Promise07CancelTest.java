public final class Promise07CancelTest {
    public static void main(String[] args) {
        freeWhenNotApproached();
        timedWhenApproached();
        refusedWhenNotSet();
        approachedStaysAfterTheTrainIsGone();
        wrongInputs();
        Check.end();
    }

    private static void freeWhenNotApproached() {
        RouteFrame frame = Layout.junction();
        frame.request(0);
        Check.is("off, but the approach is clear", frame.off(0), true);
        Check.is("cancel(0)", frame.cancel(0), 0);
        Check.is("state", frame.about(0, Layout.STATE), Layout.FREE);
        Check.is("held", frame.about(0, Layout.HELD), 0);
        Check.is("timer", frame.about(0, Layout.TIMER), 0);
        Check.is("pass let go", frame.track(1, Layout.PASS_HOLDER), RouteFrame.NONE);
        Check.is("flank let go", frame.track(4, Layout.FLANK_HOLDERS), 0);
        Check.is("on", frame.off(0), false);
        frame.occupy(0);
        frame.request(1);
        Check.is("no approach, but the signal never was off", frame.cancel(1), 0);
        Check.is("the points go on moving", frame.track(1, Layout.WANTED), 1);
    }

    private static void timedWhenApproached() {
        RouteFrame frame = Layout.junction();
        frame.occupy(0);
        frame.request(0);
        Check.is("cancel(0)", frame.cancel(0), 1);
        Check.is("state", frame.about(0, Layout.STATE), Layout.TIMED);
        Check.is("timer is its delay", frame.about(0, Layout.TIMER), 3);
        Check.is("held", frame.about(0, Layout.HELD), 7);
        Check.is("still approached", frame.about(0, Layout.APPROACHED), 1);
        Check.is("on", frame.off(0), false);
        frame.tick(3);
        Check.is("free by the timer", frame.about(0, Layout.STATE), Layout.FREE);
        Check.is("not approached any more", frame.about(0, Layout.APPROACHED), 0);
        frame.vacate(0);
        frame.request(0);
        Check.is("approached anew only by a train", frame.cancel(0), 0);
    }

    private static void refusedWhenNotSet() {
        RouteFrame frame = Layout.line();
        Check.is("cancel of a free route", frame.cancel(0), 2);
        frame.request(0);
        frame.cancel(0);
        frame.tick(1);
        Check.is("cancel of a timed route", frame.cancel(0), 2);
        Check.is("its timer goes on", frame.about(0, Layout.TIMER), 3);
        frame.occupy(0);
        Check.is("cancel of a taken route", frame.cancel(0), 2);
        Check.is("it stays taken", frame.about(0, Layout.STATE), Layout.TAKEN);
        Check.is("and holds", frame.about(0, Layout.HELD), 7);
    }

    private static void approachedStaysAfterTheTrainIsGone() {
        RouteFrame frame = Layout.junction();
        frame.request(0);
        frame.occupy(0);
        frame.vacate(0);
        frame.breakPoints(1, true);
        Check.is("approached from then on", frame.about(0, Layout.APPROACHED), 1);
        Check.is("cancel(0)", frame.cancel(0), 1);
    }

    private static void wrongInputs() {
        for (int none : new int[] {-1, 2, 8, Integer.MIN_VALUE, Integer.MAX_VALUE}) {
            RouteFrame frame = Layout.junction();
            frame.request(0);
            Check.refusesIndex("cancel(" + none + ")", frame, () -> frame.cancel(none));
        }
    }
}
