public final class Promise14ClashTest {
    public static void main(String[] args) {
        neverWithItself();
        sameSignal();
        sharedUses();
        whateverTheirState();
        wrongInputs();
        Check.end();
    }

    private static void neverWithItself() {
        RouteFrame frame = Layout.junction();
        Check.is("clash(0, 0)", frame.clash(0, 0), false);
        Check.is("clash(1, 1)", frame.clash(1, 1), false);
        Check.is("clash(0, 1)", frame.clash(0, 1), true);
        Check.is("clash(1, 0)", frame.clash(1, 0), true);
    }

    private static void sameSignal() {
        RouteFrame frame = new RouteFrame();
        frame.route(2, RouteFrame.NONE, 1);
        frame.route(2, RouteFrame.NONE, 9);
        frame.route(3, RouteFrame.NONE, 1);
        Check.is("the same signal, no uses", frame.clash(0, 1), true);
        Check.is("other signals, no uses", frame.clash(0, 2), false);
    }

    private static void sharedUses() {
        boolean[][] dueByHow = {
            {true, true, false, true},
            {true, true, true, false},
            {false, true, false, true},
            {true, false, true, false},
        };
        for (int one = 1; one <= 4; one++) {
            for (int two = 1; two <= 4; two++) {
                RouteFrame frame = Layout.sections(false, true, false);
                frame.route(0, RouteFrame.NONE, 1);
                frame.use(0, 0, 0);
                frame.use(0, 1, one);
                frame.route(1, 0, 1);
                frame.use(1, 1, two);
                frame.use(1, 2, 0);
                String what = "points used as " + one + " and as " + two;
                Check.is(what, frame.clash(0, 1), dueByHow[one - 1][two - 1]);
            }
        }
        RouteFrame frame = Layout.sections(false, false);
        for (int r = 0; r < 3; r++) {
            frame.route(r, RouteFrame.NONE, 1);
            frame.use(r, r / 2, 0);
        }
        Check.is("both pass a section without points", frame.clash(0, 1), true);
        Check.is("they pass different sections", frame.clash(0, 2), false);
    }

    private static void whateverTheirState() {
        RouteFrame frame = Layout.junction();
        frame.request(0);
        Check.is("while one is set", frame.clash(0, 1), true);
        frame.occupy(1);
        frame.occupy(2);
        frame.vacate(1);
        Check.is("when one has let go of what they share", frame.clash(0, 1), true);
    }

    private static void wrongInputs() {
        for (int none : new int[] {-1, 2, 8, Integer.MIN_VALUE, Integer.MAX_VALUE}) {
            RouteFrame frame = Layout.junction();
            Check.refusesIndex("clash(0, " + none + ")", frame, () -> frame.clash(0, none));
            Check.refusesIndex("clash(" + none + ", 0)", frame, () -> frame.clash(none, 0));
            Check.refusesIndex("clash of " + none + " with itself", frame, () -> frame.clash(none, none));
        }
    }
}
