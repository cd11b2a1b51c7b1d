public final class Promise16TrackTest {
    public static void main(String[] args) {
        withPoints();
        withoutPoints();
        holders();
        wrongInputs();
        Check.end();
    }

    private static void withPoints() {
        RouteFrame frame = Layout.junction();
        expect(frame, 1, "at first", 0, -1, 0, 0, 0, 0, 0);
        frame.request(1);
        expect(frame, 1, "held as a pass, moving", 0, 1, 0, -1, 1, 3, 0);
        frame.tick(1);
        frame.breakPoints(1, true);
        expect(frame, 1, "broken on the way", 0, 1, 0, -1, 1, 2, 1);
        frame.tick(2);
        frame.occupy(1);
        expect(frame, 1, "occupied", 1, 1, 0, 1, 1, 0, 1);
        frame.vacate(1);
        frame.breakPoints(1, false);
        expect(frame, 1, "let go", 0, -1, 0, 1, 1, 0, 0);
        frame.request(0);
        expect(frame, 4, "held as a flank", 0, -1, 1, 0, 0, 0, 0);
    }

    private static void withoutPoints() {
        RouteFrame frame = Layout.line();
        expect(frame, 1, "at first", 0, -1, 0, 0, 0, 0, 0);
        frame.request(0);
        expect(frame, 1, "held", 0, 0, 0, 0, 0, 0, 0);
        frame.occupy(1);
        expect(frame, 1, "occupied", 1, 0, 0, 0, 0, 0, 0);
        frame.tick(20);
        expect(frame, 1, "after ticks", 1, 0, 0, 0, 0, 0, 0);
    }

    private static void holders() {
        RouteFrame frame = Layout.sections(true, false, false, false, false, false, false, false, false);
        for (int r = 0; r < 8; r++) {
            frame.route(r % 6, 1, 1);
            frame.use(r, r + 1, 0);
            if (r != 2) {
                frame.use(r, 0, r == 4 ? 2 : 4);
            }
        }
        for (int r = 2; r < 8; r++) {
            Check.is("request(" + r + ")", frame.request(r), 0);
        }
        Check.is("the pass of the points", frame.track(0, Layout.PASS_HOLDER), 4);
        Check.is("their flanks", frame.track(0, Layout.FLANK_HOLDERS), 8 + 32 + 64 + 128);
        Check.is("a pass of the last route", frame.track(8, Layout.PASS_HOLDER), 7);
        Check.is("a pass of a free route", frame.track(1, Layout.PASS_HOLDER), RouteFrame.NONE);
        frame.cancel(7);
        Check.is("flanks after a cancel", frame.track(0, Layout.FLANK_HOLDERS), 8 + 32 + 64);
        Check.is("the cancelled pass", frame.track(8, Layout.PASS_HOLDER), RouteFrame.NONE);
    }

    private static void wrongInputs() {
        int big = Integer.MAX_VALUE;
        int small = Integer.MIN_VALUE;
        for (int none : new int[] {-1, 5, 12, small, big}) {
            RouteFrame frame = Layout.junction();
            Check.refusesIndex("track(" + none + ", 0)", frame, () -> frame.track(none, 0));
            Check.refusesIndex("track(" + none + ", 7)", frame, () -> frame.track(none, 7));
        }
        for (int what : new int[] {-1, 7, small, big}) {
            RouteFrame frame = Layout.junction();
            Check.refusesArgument("track(0, " + what + ")", frame, () -> frame.track(0, what));
            Check.refusesArgument("track(1, " + what + ")", frame, () -> frame.track(1, what));
        }
    }

    private static void expect(RouteFrame frame, int section, String when, int... due) {
        for (int what = 0; what <= 6; what++) {
            Check.is(when + ", track(" + section + ", " + what + ")", frame.track(section, what), due[what]);
        }
    }
}
