public final class Promise10MoveTest {
    public static void main(String[] args) {
        movesByTime();
        toWhereTheyAre();
        anewOnTheWay();
        refusedWhenOccupiedOrHeld();
        wrongInputs();
        Check.end();
    }

    private static void movesByTime() {
        RouteFrame frame = Layout.sections(true, true);
        Check.is("move(0, 1)", frame.move(0, 1), true);
        expectPoints(frame, "at once", -1, 1, 3);
        frame.tick(1);
        expectPoints(frame, "after 1 tick", -1, 1, 2);
        frame.tick(1);
        expectPoints(frame, "after 2 ticks", -1, 1, 1);
        frame.tick(1);
        expectPoints(frame, "after 3 ticks", 1, 1, 0);
        Check.is("the other points", frame.track(1, Layout.WANTED), 0);
        Check.is("move back", frame.move(0, 0), true);
        expectPoints(frame, "back at once", -1, 0, 3);
        frame.tick(3);
        expectPoints(frame, "back after 3 ticks", 0, 0, 0);
    }

    private static void toWhereTheyAre() {
        RouteFrame frame = Layout.sections(true);
        Check.is("move to where they lie", frame.move(0, 0), true);
        expectPoints(frame, "they stay", 0, 0, 0);
    }

    private static void anewOnTheWay() {
        RouteFrame frame = Layout.sections(true);
        frame.move(0, 1);
        frame.tick(2);
        Check.is("the same position again", frame.move(0, 1), true);
        expectPoints(frame, "it has been wanted from earlier on", -1, 1, 1);
        Check.is("back on the way", frame.move(0, 0), true);
        expectPoints(frame, "3 ticks anew", -1, 0, 3);
    }

    private static void refusedWhenOccupiedOrHeld() {
        RouteFrame frame = Layout.junction();
        frame.occupy(1);
        Check.is("occupied", frame.move(1, 1), false);
        Check.is("occupied, where they lie", frame.move(1, 0), false);
        expectPointsOf(frame, 1, "refused", 0, 0, 0);
        frame.vacate(1);
        frame.request(0);
        Check.is("held as a pass", frame.move(1, 1), false);
        Check.is("held as a flank", frame.move(4, 1), false);
        Check.is("held, where they lie", frame.move(4, 0), false);
        expectPointsOf(frame, 4, "refused", 0, 0, 0);
        frame.cancel(0);
        frame.breakPoints(4, true);
        Check.is("not held any more, broken", frame.move(4, 1), true);
        frame.tick(3);
        expectPointsOf(frame, 4, "broken points move", 1, 1, 0);
    }

    private static void wrongInputs() {
        for (int none : new int[] {-1, 5, 12, Integer.MIN_VALUE, Integer.MAX_VALUE}) {
            RouteFrame frame = Layout.junction();
            Check.refusesIndex("move(" + none + ", 0)", frame, () -> frame.move(none, 0));
            Check.refusesIndex("move(" + none + ", 2)", frame, () -> frame.move(none, 2));
        }
        for (int position : new int[] {-1, 2, Integer.MIN_VALUE, Integer.MAX_VALUE}) {
            RouteFrame frame = Layout.junction();
            Check.refusesArgument("move(1, " + position + ")", frame, () -> frame.move(1, position));
            frame.occupy(1);
            Check.refusesArgument("the same while occupied", frame, () -> frame.move(1, position));
        }
        RouteFrame frame = Layout.junction();
        Check.refusesArgument("move without points", frame, () -> frame.move(2, 0));
        frame.occupy(2);
        Check.refusesArgument("no points while occupied", frame, () -> frame.move(2, 1));
    }

    private static void expectPoints(RouteFrame frame, String when, int lie, int wanted, int toGo) {
        expectPointsOf(frame, 0, when, lie, wanted, toGo);
    }

    private static void expectPointsOf(RouteFrame frame, int section, String when, int lie, int wanted, int toGo) {
        Check.is(when + ", how they lie", frame.track(section, Layout.LIE), lie);
        Check.is(when + ", wanted", frame.track(section, Layout.WANTED), wanted);
        Check.is(when + ", ticks to go", frame.track(section, Layout.TO_GO), toGo);
    }
}
