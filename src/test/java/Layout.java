import java.util.Arrays;

/** Frames that several tests begin with, and the names of what the queries tell. */
final class Layout {
    static final int NONE = RouteFrame.NONE;

    static final int FREE = 0;
    static final int SET = 1;
    static final int TAKEN = 2;
    static final int TIMED = 3;

    static final int STATE = 0;
    static final int TIMER = 1;
    static final int APPROACHED = 2;
    static final int HELD = 3;
    static final int RUN_OVER = 4;

    static final int OCCUPIED = 0;
    static final int PASS_HOLDER = 1;
    static final int FLANK_HOLDERS = 2;
    static final int LIE = 3;
    static final int WANTED = 4;
    static final int TO_GO = 5;
    static final int BROKEN = 6;

    private Layout() {
    }

    static RouteFrame sections(boolean... points) {
        RouteFrame frame = new RouteFrame();
        for (boolean has : points) {
            frame.section(has);
        }
        return frame;
    }

    static RouteFrame plainSections(int count) {
        return sections(new boolean[count]);
    }

    /** Plain sections, each passed by a route of its own number and signal, without approach, delay 5; at most 6. */
    static RouteFrame oneEach(int count) {
        RouteFrame frame = plainSections(count);
        for (int r = 0; r < count; r++) {
            frame.route(r, NONE, 5);
            frame.use(r, r, 0);
        }
        return frame;
    }

    /**
     * Sections 0 (plain, the approach), 1 (points), 2, 3 (plain), 4 (points). Route 0 of signal 0 goes straight
     * over 1 and 2 with 4 as its flank in 0, delay 3; route 1 of signal 1 turns off over 1 and 3, delay 2, and has
     * no approach.
     */
    static RouteFrame junction() {
        RouteFrame frame = sections(false, true, false, false, true);
        frame.route(0, 0, 3);
        frame.use(0, 1, 1);
        frame.use(0, 4, 3);
        frame.use(0, 2, 0);
        frame.route(1, NONE, 2);
        frame.use(1, 1, 2);
        frame.use(1, 3, 0);
        return frame;
    }

    /** Plain sections 0 to 2, all passed in this order by route 0 of signal 0, without approach, delay 4. */
    static RouteFrame line() {
        RouteFrame frame = plainSections(3);
        frame.route(0, NONE, 4);
        for (int s = 0; s < 3; s++) {
            frame.use(0, s, 0);
        }
        return frame;
    }

    /** Sections 0 (points) and 1 (plain); route 0 of signal 0 uses 0 so and passes 1, without approach, delay 1. */
    static RouteFrame overPoints(int how) {
        RouteFrame frame = sections(true, false);
        frame.route(0, NONE, 1);
        frame.use(0, 0, how);
        frame.use(0, 1, 0);
        return frame;
    }

    /** Plain sections 0 to 5, all passed by route 0 of signal 0, and 6 (points), used by none. */
    static RouteFrame sixUses() {
        RouteFrame frame = sections(false, false, false, false, false, false, true);
        frame.route(0, NONE, 1);
        for (int s = 0; s < 6; s++) {
            frame.use(0, s, 0);
        }
        return frame;
    }

    /**
     * As many sections, routes and uses as there may be. Sections 0 to 5 are plain, 6 to 11 have points. Route r of 0
     * to 5 has signal r and passes section r; route 6 of signal 0 has no uses; route 7 of signal 1 passes 6 to 11 with
     * points in 1. Approaches are the sections of the routes' own numbers, but route 7 has none; delay 9.
     */
    static RouteFrame full() {
        boolean[] points = new boolean[12];
        Arrays.fill(points, 6, 12, true);
        RouteFrame frame = sections(points);
        for (int r = 0; r < 8; r++) {
            frame.route(r % 6, r == 7 ? NONE : r, 9);
        }
        for (int r = 0; r < 6; r++) {
            frame.use(r, r, 0);
            frame.use(7, r + 6, 2);
        }
        return frame;
    }

    /**
     * A full frame with something of every kind under way. Sections 1, 3, 5, 7 and 11 have points. Route 0 is TAKEN,
     * its first pass let go, its second (1) occupied; 1 is SET, its points 3 and 7 moving; 2 is TIMED; 3, 4, 5 and 6
     * are FREE, 4 with 6 uses, 5 with none, 6 with a flank alone; 7 is SET and approached. Points 5 are broken and on
     * their way to 1, and so are points 11, which are occupied.
     */
    static RouteFrame busy() {
        RouteFrame frame = sections(
                false, true, false, true, false, true, false, true, false, false, false, true);
        int[][] routes = {
            {0, NONE, 5}, {1, 6, 9}, {2, NONE, 7}, {3, 0, 1}, {4, 11, 4}, {5, NONE, 2}, {1, 1, 3}, {5, NONE, 6},
        };
        for (int[] row : routes) {
            frame.route(row[0], row[1], row[2]);
        }
        int[][] uses = {
            {0, 0, 0}, {0, 1, 1}, {0, 2, 0}, {1, 3, 2}, {1, 7, 4}, {2, 4, 0}, {3, 5, 1}, {3, 11, 3},
            {4, 0, 0}, {4, 2, 0}, {4, 4, 0}, {4, 6, 0}, {4, 8, 0}, {4, 9, 0}, {6, 7, 3}, {7, 10, 0},
        };
        for (int[] row : uses) {
            frame.use(row[0], row[1], row[2]);
        }
        frame.request(0);
        frame.request(2);
        frame.request(7);
        frame.occupy(0);
        frame.occupy(1);
        frame.vacate(0);
        frame.cancel(2);
        frame.move(5, 1);
        frame.move(11, 1);
        frame.breakPoints(5, true);
        frame.tick(1);
        frame.occupy(11);
        frame.request(1);
        frame.tick(1);
        return frame;
    }
}
