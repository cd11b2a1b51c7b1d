public final class Promise16TrackTest {
    public static void main(String[] args) {
        Check.that("what = 0 whether it is occupied (1 or 0)", Promise16TrackTest::occupied);
        Check.that("1 the route that holds a pass of it", Promise16TrackTest::passHolder);
        Check.that("1 the route that holds a pass of it (NONE when none does)", Promise16TrackTest::noPassHolder);
        Check.that("2 the routes that hold a flank of it, as the sum of 2^route", Promise16TrackTest::flankHolders);
        Check.that("2 the routes that hold a flank of it (none, or all 8)", Promise16TrackTest::noneOrAllFlank);
        Check.that("and with points, 3 how they lie", Promise16TrackTest::lie);
        Check.that("4 which position is wanted", Promise16TrackTest::wanted);
        Check.that("5 how many ticks they have to go", Promise16TrackTest::ticksToGo);
        Check.that("5 how many ticks they have to go (0 when they are not moving)", Promise16TrackTest::notMoving);
        Check.that("6 whether they are broken (1 or 0)", Promise16TrackTest::broken);
        Check.that("0 without points.", Promise16TrackTest::withoutPoints);
        Check.that("Of a section (of each for itself)", Promise16TrackTest::ofEach);
        Check.that("Of a section (asking changes nothing)", Promise16TrackTest::askingChangesNothing);
        Check.that("IndexOutOfBoundsException when there is no such section", Promise16TrackTest::noSuchSection);
        Check.that("IllegalArgumentException when what is none of these.", Promise16TrackTest::noSuchWhat);
        Check.end();
    }

    private static void occupied() {
        RouteFrame frame = Layout.sections(false, true);
        for (int s = 0; s < 2; s++) {
            Check.is("clear", frame.track(s, 0), 0);
            frame.occupy(s);
            Check.is("occupied", frame.track(s, 0), 1);
            frame.vacate(s);
            Check.is("clear again", frame.track(s, 0), 0);
        }
    }

    private static void passHolder() {
        for (int r : new int[] {0, 1, 6, 7}) {
            RouteFrame frame = Layout.sections(false, true);
            for (int route = 0; route < 8; route++) {
                frame.route(route % 6, Layout.NONE, 2);
                frame.use(route, 0, 0);
                frame.use(route, 1, 2);
            }
            frame.request(r);
            Check.is("set, without points", frame.track(0, 1), r);
            Check.is("set, with points", frame.track(1, 1), r);
            frame.tick(3);
            frame.cancel(r);
            Check.is("timed", frame.track(0, 1), r);
            frame.occupy(0);
            Check.is("taken", frame.track(0, 1), r);
            Check.is("taken elsewhere", frame.track(1, 1), r);
        }
    }

    private static void noPassHolder() {
        RouteFrame frame = Layout.junction();
        Check.is("free", frame.track(1, 1), -1);
        frame.request(0);
        Check.is("a flank is no pass", frame.track(4, 1), -1);
        Check.is("the approach is no pass", frame.track(0, 1), -1);
        Check.is("a section of a free route", frame.track(3, 1), -1);
        frame.occupy(1);
        frame.vacate(1);
        Check.is("let go behind a train", frame.track(1, 1), -1);
        Check.is("not let go", frame.track(2, 1), 0);
    }

    private static void flankHolders() {
        RouteFrame frame = Layout.sections(true, false, false, false, false, false, false, false, false);
        for (int r = 0; r < 8; r++) {
            frame.route(r % 6, 1, 1);
            frame.use(r, r + 1, 0);
            if (r != 2) {
                frame.use(r, 0, r == 4 ? 2 : 4);
            }
        }
        for (int r = 2; r < 8; r++) {
            Check.is("request(" + r + ")", frame.request(r), 0);
        }
        Check.is("the routes", frame.track(0, 2), 8 + 32 + 64 + 128);
        Check.is("the pass beside them", frame.track(0, 1), 4);
        frame.cancel(7);
        Check.is("after a cancel", frame.track(0, 2), 8 + 32 + 64);
    }

    private static void noneOrAllFlank() {
        RouteFrame frame = Layout.sections(true, false, false, false, false, false, false, false, false);
        for (int r = 0; r < 8; r++) {
            frame.route(r % 6, Layout.NONE, 1);
            frame.use(r, r + 1, 0);
            frame.use(r, 0, 3);
        }
        Check.is("none", frame.track(0, 2), 0);
        int due = 0;
        for (int r = 0; r < 8; r++) {
            Check.is("request(" + r + ")", frame.request(r), 0);
            // Signals are shared by two: the first must be taken before the second can be set.
            frame.occupy(r + 1);
            due += 1 << r;
            Check.is("up to " + r, frame.track(0, 2), due);
        }
        Check.is("all", frame.track(0, 2), 255);
        Check.is("a pass is no flank", frame.track(1, 2), 0);
    }

    private static void lie() {
        RouteFrame frame = Layout.sections(true);
        Check.is("at first", frame.track(0, 3), 0);
        frame.move(0, 1);
        Check.is("between", frame.track(0, 3), -1);
        frame.tick(2);
        Check.is("still between", frame.track(0, 3), -1);
        frame.tick(1);
        Check.is("there", frame.track(0, 3), 1);
    }

    private static void wanted() {
        RouteFrame frame = Layout.sections(true);
        Check.is("at first", frame.track(0, 4), 0);
        frame.move(0, 1);
        Check.is("at once", frame.track(0, 4), 1);
        frame.tick(3);
        Check.is("there", frame.track(0, 4), 1);
        frame.move(0, 0);
        Check.is("back", frame.track(0, 4), 0);
    }

    private static void ticksToGo() {
        RouteFrame frame = Layout.sections(true);
        frame.move(0, 1);
        Check.is("at once", frame.track(0, 5), 3);
        frame.tick(1);
        Check.is("after 1", frame.track(0, 5), 2);
        frame.tick(1);
        Check.is("after 2", frame.track(0, 5), 1);
    }

    private static void notMoving() {
        RouteFrame frame = Layout.sections(true);
        Check.is("at first", frame.track(0, 5), 0);
        frame.tick(20);
        Check.is("at first, later", frame.track(0, 5), 0);
        frame.move(0, 0);
        Check.is("wanted where they lie", frame.track(0, 5), 0);
        frame.move(0, 1);
        frame.tick(3);
        Check.is("there", frame.track(0, 5), 0);
        frame.tick(20);
        Check.is("there, later", frame.track(0, 5), 0);
    }

    private static void broken() {
        RouteFrame frame = Layout.sections(true);
        Check.is("at first", frame.track(0, 6), 0);
        frame.breakPoints(0, true);
        Check.is("broken", frame.track(0, 6), 1);
        frame.breakPoints(0, false);
        Check.is("not any more", frame.track(0, 6), 0);
    }

    private static void withoutPoints() {
        RouteFrame frame = Layout.line();
        expectNoPoints(frame, "at first");
        frame.request(0);
        expectNoPoints(frame, "held");
        frame.occupy(1);
        expectNoPoints(frame, "occupied");
        frame.tick(20);
        expectNoPoints(frame, "after ticks");
    }

    private static void expectNoPoints(RouteFrame frame, String when) {
        for (int what = 3; what <= 6; what++) {
            Check.is(when + ", track(1, " + what + ")", frame.track(1, what), 0);
        }
    }

    private static void ofEach() {
        RouteFrame frame = Layout.busy();
        int[][] due = {
            {0, -1, 0, 0, 0, 0, 0}, {1, 0, 0, 0, 0, 0, 0}, {0, 0, 0, 0, 0, 0, 0}, {0, 1, 0, -1, 1, 2, 0},
            {0, 2, 0, 0, 0, 0, 0}, {0, -1, 0, -1, 1, 1, 1}, {0, -1, 0, 0, 0, 0, 0}, {0, -1, 2, -1, 1, 2, 0},
            {0, -1, 0, 0, 0, 0, 0}, {0, -1, 0, 0, 0, 0, 0}, {0, 7, 0, 0, 0, 0, 0}, {1, -1, 0, -1, 1, 1, 0},
        };
        for (int s = 0; s < 12; s++) {
            for (int what = 0; what <= 6; what++) {
                Check.is("track(" + s + ", " + what + ")", frame.track(s, what), due[s][what]);
            }
        }
    }

    private static void noSuchSection() {
        for (int none : Outside.of(0, 4)) {
            RouteFrame frame = Layout.junction();
            for (int what = 0; what <= 6; what++) {
                int asked = what;
                Check.raisesIndex("track(" + none + ", " + what + ")", () -> frame.track(none, asked));
            }
            Check.refusesIndex("track(" + none + ", 0)", frame, () -> frame.track(none, 0));
        }
        RouteFrame full = Layout.full();
        for (int none : Outside.of(0, 11)) {
            Check.raisesIndex("track(" + none + ", 0) of 12", () -> full.track(none, 0));
        }
    }

    private static void noSuchWhat() {
        for (int what : Outside.of(0, 6)) {
            RouteFrame frame = Layout.junction();
            frame.request(0);
            Check.refusesArgument("without points, track(0, " + what + ")", frame, () -> frame.track(0, what));
            Check.raisesArgument("with points, track(1, " + what + ")", () -> frame.track(1, what));
        }
    }

    private static void askingChangesNothing() {
        for (int w = 0; w <= 6; w++) {
            int what = w;
            for (int s : new int[] {1, 4, 5, 7}) {
                Life.ofABusyFrameIsNotChangedBy("track(" + s + ", " + w + ")", frame -> frame.track(s, what));
            }
        }
    }
}
