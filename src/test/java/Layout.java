import java.util.Arrays;

/** Frames that several tests begin with. */
final class Layout {
    static final int FREE = 0;
    static final int SET = 1;
    static final int TAKEN = 2;
    static final int TIMED = 3;

    static final int STATE = 0;
    static final int TIMER = 1;
    static final int APPROACHED = 2;
    static final int HELD = 3;
    static final int RUN_OVER = 4;

    static final int OCCUPIED = 0;
    static final int PASS_HOLDER = 1;
    static final int FLANK_HOLDERS = 2;
    static final int LIE = 3;
    static final int WANTED = 4;
    static final int TO_GO = 5;
    static final int BROKEN = 6;

    private Layout() {
    }

    static RouteFrame sections(boolean... points) {
        RouteFrame frame = new RouteFrame();
        for (boolean has : points) {
            frame.section(has);
        }
        return frame;
    }

    /**
     * Sections 0 (plain, the approach), 1 (points), 2, 3 (plain), 4 (points). Route 0 of signal 0 goes straight
     * over 1 and 2 with 4 as its flank in 0, delay 3; route 1 of signal 1 turns off over 1 and 3, delay 2, and has
     * no approach.
     */
    static RouteFrame junction() {
        RouteFrame frame = sections(false, true, false, false, true);
        frame.route(0, 0, 3);
        frame.use(0, 1, 1);
        frame.use(0, 4, 3);
        frame.use(0, 2, 0);
        frame.route(1, RouteFrame.NONE, 2);
        frame.use(1, 1, 2);
        frame.use(1, 3, 0);
        return frame;
    }

    /**
     * As many sections, routes and uses as there may be. Sections 0 to 5 are plain, 6 to 11 have points. Route r of 0
     * to 5 has signal r and passes section r; route 6 of signal 0 has no uses; route 7 of signal 1 passes 6 to 11 with
     * points in 1. Approaches are the sections of the routes' own numbers, but route 7 has none, and delay 9.
     */
    static RouteFrame full() {
        boolean[] points = new boolean[12];
        Arrays.fill(points, 6, 12, true);
        RouteFrame frame = sections(points);
        for (int r = 0; r < 8; r++) {
            frame.route(r % 6, r == 7 ? RouteFrame.NONE : r, 9);
        }
        for (int r = 0; r < 6; r++) {
            frame.use(r, r, 0);
            frame.use(7, r + 6, 2);
        }
        return frame;
    }

    /** Plain sections 0 to 2, all passed in this order by route 0 of signal 0, without approach, delay 4. */
    static RouteFrame line() {
        RouteFrame frame = sections(false, false, false);
        frame.route(0, RouteFrame.NONE, 4);
        frame.use(0, 0, 0);
        frame.use(0, 1, 0);
        frame.use(0, 2, 0);
        return frame;
    }
}
