public final class Promise05UseTest {
    public static void main(String[] args) {
        usesInTheirOrder();
        wrongInputs();
        theSameSectionAgain();
        atMostSix();
        onlyWhileAllAreFree();
        orderOfExceptions();
        Check.end();
    }

    private static void usesInTheirOrder() {
        RouteFrame frame = Layout.sections(true, true, false, true, true);
        frame.route(0, RouteFrame.NONE, 1);
        frame.use(0, 3, 4);
        frame.use(0, 2, 0);
        frame.use(0, 0, 2);
        frame.use(0, 4, 3);
        frame.use(0, 1, 1);
        Check.is("request", frame.request(0), 0);
        Check.is("held", frame.about(0, Layout.HELD), 31);
        int[] wanted = {1, 0, 0, 1, 0};
        int[] passHolder = {0, 0, 0, RouteFrame.NONE, RouteFrame.NONE};
        int[] flankHolders = {0, 0, 0, 1, 1};
        for (int s = 0; s < 5; s++) {
            Check.is("wanted of " + s, frame.track(s, Layout.WANTED), wanted[s]);
            Check.is("pass of " + s, frame.track(s, Layout.PASS_HOLDER), passHolder[s]);
            Check.is("flank of " + s, frame.track(s, Layout.FLANK_HOLDERS), flankHolders[s]);
        }
        frame.occupy(0);
        Check.is("the third use is run over", frame.about(0, Layout.RUN_OVER), 4);
    }

    private static void wrongInputs() {
        int big = Integer.MAX_VALUE;
        int small = Integer.MIN_VALUE;
        for (int none : new int[] {-1, 3, small, big}) {
            RouteFrame frame = oneUse();
            Check.refusesIndex("use of section " + none, frame, () -> frame.use(0, none, 0));
        }
        for (int none : new int[] {-1, 1, small, big}) {
            RouteFrame frame = oneUse();
            Check.refusesIndex("use by route " + none, frame, () -> frame.use(none, 1, 1));
        }
        for (int how : new int[] {-1, 0, 5, small, big}) {
            RouteFrame frame = oneUse();
            Check.refusesArgument("how " + how + " with points", frame, () -> frame.use(0, 1, how));
            frame.request(0);
            Check.is("uses after how " + how, frame.about(0, Layout.HELD), 1);
        }
        for (int how : new int[] {-1, 1, 2, 3, 4, 5, small, big}) {
            RouteFrame frame = oneUse();
            Check.refusesArgument("how " + how + " without points", frame, () -> frame.use(0, 2, how));
            frame.request(0);
            Check.is("uses after how " + how, frame.about(0, Layout.HELD), 1);
        }
    }

    private static void theSameSectionAgain() {
        RouteFrame plain = oneUse();
        Check.refusesArgument("the same section again", plain, () -> plain.use(0, 0, 0));
        for (int how : new int[] {1, 2, 3, 4}) {
            RouteFrame frame = oneUse();
            frame.use(0, 1, 4);
            Check.refusesArgument("the same points again as " + how, frame, () -> frame.use(0, 1, how));
            frame.request(0);
            Check.is("uses after points again", frame.about(0, Layout.HELD), 3);
            Check.is("as first said", frame.track(1, Layout.FLANK_HOLDERS), 1);
        }
    }

    /** Sections 0 (plain, passed by route 0), 1 (points), 2 (plain). */
    private static RouteFrame oneUse() {
        RouteFrame frame = Layout.sections(false, true, false);
        frame.route(0, RouteFrame.NONE, 1);
        frame.use(0, 0, 0);
        return frame;
    }

    private static void atMostSix() {
        RouteFrame frame = Layout.sections(false, false, false, false, false, false, false);
        frame.route(0, RouteFrame.NONE, 1);
        for (int s = 0; s < 6; s++) {
            frame.use(0, s, 0);
        }
        Check.refusesState("a 7th use", frame, () -> frame.use(0, 6, 0));
        frame.route(1, RouteFrame.NONE, 1);
        frame.use(1, 6, 0);
        frame.request(0);
        Check.is("six uses are held", frame.about(0, Layout.HELD), 63);
        Check.is("the 7th section is not", frame.track(6, Layout.PASS_HOLDER), RouteFrame.NONE);
    }

    private static void onlyWhileAllAreFree() {
        RouteFrame frame = Layout.line();
        frame.section(false);
        frame.route(1, RouteFrame.NONE, 1);
        frame.request(0);
        Check.refusesState("use while another is set", frame, () -> frame.use(1, 3, 0));
        Check.refusesState("use by a set route", frame, () -> frame.use(0, 3, 0));
        frame.cancel(0);
        Check.refusesState("use while another is timed", frame, () -> frame.use(1, 3, 0));
        frame.occupy(0);
        Check.refusesState("use while another is taken", frame, () -> frame.use(1, 3, 0));
        frame.occupy(1);
        frame.occupy(2);
        frame.vacate(0);
        frame.vacate(1);
        frame.vacate(2);
        frame.use(1, 3, 0);
        Check.is("request with the use made when all were free again", frame.request(1), 0);
    }

    private static void orderOfExceptions() {
        RouteFrame frame = sixUses();
        Check.refusesArgument("how before a 7th use", frame, () -> frame.use(0, 6, 0));
        Check.refusesArgument("the same section before a 7th use", frame, () -> frame.use(0, 0, 0));
        RouteFrame other = sixUses();
        Check.refusesIndex("section before how", other, () -> other.use(0, 7, 9));
        Check.refusesIndex("route before how", other, () -> other.use(1, 0, 9));
        RouteFrame set = sixUses();
        set.request(0);
        Check.refusesArgument("how before a route that is not free", set, () -> set.use(0, 6, 5));
        Check.refusesIndex("section before a route that is not free", set, () -> set.use(0, 7, 0));
    }

    /** Plain sections 0 to 5, passed by route 0, and 6 (points). */
    private static RouteFrame sixUses() {
        RouteFrame frame = Layout.sections(false, false, false, false, false, false, true);
        frame.route(0, RouteFrame.NONE, 1);
        for (int s = 0; s < 6; s++) {
            frame.use(0, s, 0);
        }
        return frame;
    }
}
