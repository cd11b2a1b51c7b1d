public final class Promise15AboutTest {
    public static void main(String[] args) {
        Check.that("what = 0 whether it is FREE, SET, TAKEN or TIMED (0 .. 3)", Promise15AboutTest::state);
        Check.that("1 its timer", Promise15AboutTest::timer);
        Check.that("1 its timer (0 when it is not TIMED)", Promise15AboutTest::noTimer);
        Check.that("2 whether it is approached (1 or 0)", Promise15AboutTest::approached);
        Check.that("3 its uses that it holds, as the sum of 2^k (k from 0, in their order)", Promise15AboutTest::held);
        Check.that("3 its uses that it holds (none, or all 6)", Promise15AboutTest::noneOrAllHeld);
        Check.that("4 of these those that are run over.", Promise15AboutTest::runOver);
        Check.that("4 of these (not what was let go)", Promise15AboutTest::runOverAndLetGo);
        Check.that("Of a route (of each for itself)", Promise15AboutTest::ofEach);
        Check.that("Of a route (asking changes nothing)", Promise15AboutTest::askingChangesNothing);
        Check.that("IndexOutOfBoundsException when there is no such route", Promise15AboutTest::noSuchRoute);
        Check.that("IllegalArgumentException when what is none of these.", Promise15AboutTest::noSuchWhat);
        Check.end();
    }

    private static void state() {
        RouteFrame frame = Layout.line();
        Check.is("free", frame.about(0, 0), 0);
        frame.request(0);
        Check.is("set", frame.about(0, 0), 1);
        frame.cancel(0);
        Check.is("timed", frame.about(0, 0), 3);
        frame.occupy(0);
        Check.is("taken", frame.about(0, 0), 2);
    }

    private static void timer() {
        RouteFrame frame = Layout.line();
        frame.request(0);
        frame.cancel(0);
        Check.is("at once", frame.about(0, 1), 4);
        frame.tick(1);
        Check.is("after a tick", frame.about(0, 1), 3);
        frame.tick(2);
        Check.is("after 3 ticks", frame.about(0, 1), 1);
    }

    private static void noTimer() {
        RouteFrame frame = Layout.line();
        Check.is("free", frame.about(0, 1), 0);
        frame.request(0);
        Check.is("set", frame.about(0, 1), 0);
        frame.cancel(0);
        frame.tick(1);
        frame.occupy(0);
        Check.is("taken", frame.about(0, 1), 0);
        frame.occupy(1);
        frame.occupy(2);
        frame.vacate(0);
        frame.vacate(1);
        frame.vacate(2);
        Check.is("free again", frame.about(0, 1), 0);
        frame.request(0);
        Check.is("set again", frame.about(0, 1), 0);
        frame.cancel(0);
        frame.tick(4);
        Check.is("free by time", frame.about(0, 1), 0);
    }

    private static void approached() {
        RouteFrame frame = Layout.junction();
        Check.is("free", frame.about(0, 2), 0);
        frame.request(0);
        Check.is("set", frame.about(0, 2), 0);
        frame.occupy(0);
        Check.is("approached", frame.about(0, 2), 1);
    }

    private static void held() {
        RouteFrame frame = Layout.junction();
        frame.request(0);
        Check.is("all three", frame.about(0, 3), 1 + 2 + 4);
        frame.occupy(1);
        frame.occupy(2);
        frame.vacate(1);
        Check.is("without the first", frame.about(0, 3), 2 + 4);
    }

    private static void noneOrAllHeld() {
        RouteFrame frame = Layout.sixUses();
        Check.is("free", frame.about(0, 3), 0);
        frame.request(0);
        int held = 63;
        Check.is("set", frame.about(0, 3), held);
        for (int s = 0; s < 6; s++) {
            frame.occupy(s);
            frame.vacate(s);
            held -= 1 << s;
            Check.is("behind " + s, frame.about(0, 3), held);
        }
    }

    private static void runOver() {
        RouteFrame frame = Layout.sixUses();
        Check.is("free", frame.about(0, 4), 0);
        frame.request(0);
        Check.is("set", frame.about(0, 4), 0);
        int over = 0;
        for (int s = 5; s >= 0; s--) {
            frame.occupy(s);
            over += 1 << s;
            Check.is("with " + s, frame.about(0, 4), over);
        }
    }

    private static void runOverAndLetGo() {
        RouteFrame frame = Layout.line();
        frame.request(0);
        frame.occupy(0);
        frame.occupy(1);
        Check.is("both are run over", frame.about(0, 4), 3);
        frame.vacate(0);
        Check.is("the first is let go", frame.about(0, 4), 2);
        frame.vacate(1);
        Check.is("the second is let go", frame.about(0, 4), 0);
        Check.is("still taken", frame.about(0, 0), Layout.TAKEN);
    }

    private static void ofEach() {
        RouteFrame frame = Layout.busy();
        int[][] due = {
            {2, 0, 1, 6, 2}, {1, 0, 0, 3, 0}, {3, 5, 1, 1, 0}, {0, 0, 0, 0, 0},
            {0, 0, 0, 0, 0}, {0, 0, 0, 0, 0}, {0, 0, 0, 0, 0}, {1, 0, 1, 1, 0},
        };
        for (int r = 0; r < 8; r++) {
            for (int what = 0; what <= 4; what++) {
                Check.is("about(" + r + ", " + what + ")", frame.about(r, what), due[r][what]);
            }
        }
    }

    private static void noSuchRoute() {
        for (int none : Outside.of(0, 1)) {
            RouteFrame frame = Layout.junction();
            for (int what = 0; what <= 4; what++) {
                int asked = what;
                Check.raisesIndex("about(" + none + ", " + what + ")", () -> frame.about(none, asked));
            }
            Check.refusesIndex("about(" + none + ", 0)", frame, () -> frame.about(none, 0));
        }
        RouteFrame full = Layout.full();
        for (int none : Outside.of(0, 7)) {
            Check.raisesIndex("about(" + none + ", 0) of 8", () -> full.about(none, 0));
        }
    }

    private static void noSuchWhat() {
        for (int what : Outside.of(0, 4)) {
            RouteFrame frame = Layout.junction();
            frame.request(0);
            Check.refusesArgument("about(0, " + what + ")", frame, () -> frame.about(0, what));
            Check.raisesArgument("about(1, " + what + ")", () -> frame.about(1, what));
        }
    }

    private static void askingChangesNothing() {
        for (int w = 0; w <= 4; w++) {
            int what = w;
            for (int r = 0; r <= 2; r++) {
                int route = r;
                Life.ofABusyFrameIsNotChangedBy("about(" + r + ", " + w + ")", frame -> frame.about(route, what));
            }
        }
    }
}
