/** A signal box: locks routes over sections of track and tells which signals may be passed. */
public final class RouteFrame {
    public static final int NONE = -1;

    private static final int MOST_SECTIONS = 12;
    private static final int MOST_ROUTES = 8;
    private static final int MOST_USES = 6;
    private static final int SIGNALS = 6;
    private static final int MOST_DELAY = 9;
    private static final int MOST_TICKS = 20;

    private static final int BETWEEN = -1;
    private static final int TICKS_TO_MOVE = 3;

    private static final int FREE = 0;
    private static final int SET = 1;
    private static final int TAKEN = 2;
    private static final int TIMED = 3;

    private static final int PASS_WITHOUT_POINTS = 0;
    private static final int LAST_PASS = 2;
    private static final int LAST_HOW = 4;

    private static final int GRANTED = 0;
    private static final int NOT_TO_BE_SET = 1;
    private static final int HELD_BY_ANOTHER = 2;
    private static final int WAY_OCCUPIED = 3;
    private static final int POINTS_OCCUPIED = 4;

    private static final int TAKEN_BACK = 0;
    private static final int TIMER_RUNS = 1;
    private static final int NOT_SET = 2;

    // All rows are made once and begun anew when their number is given out again, to spare the room.
    private final Section[] sections;
    private final Route[] routes;
    private int sectionCount;
    private int routeCount;

    public RouteFrame() {
        sections = new Section[MOST_SECTIONS];
        for (int i = 0; i < MOST_SECTIONS; i++) {
            sections[i] = new Section();
        }
        routes = new Route[MOST_ROUTES];
        for (int i = 0; i < MOST_ROUTES; i++) {
            routes[i] = new Route();
        }
        sectionCount = 0;
        routeCount = 0;
    }

    public void clear() {
        sectionCount = 0;
        routeCount = 0;
    }

    public int section(boolean points) throws IllegalStateException {
        if (sectionCount >= MOST_SECTIONS) {
            throw new IllegalStateException("there are 12 sections");
        }
        int number = sectionCount;
        sections[number].begin(points);
        sectionCount++;
        return number;
    }

    public int route(int signal, int approach, int delay)
            throws IndexOutOfBoundsException, IllegalArgumentException, IllegalStateException {
        if (approach != NONE && !isSection(approach)) {
            throw new IndexOutOfBoundsException("no such section");
        }
        if (!isSignal(signal) || delay < 1 || delay > MOST_DELAY) {
            throw new IllegalArgumentException("signal is not 0 .. 5 or delay not 1 .. 9");
        }
        if (routeCount >= MOST_ROUTES) {
            throw new IllegalStateException("there are 8 routes");
        }
        int number = routeCount;
        routes[number].begin(signal, approach, delay);
        routeCount++;
        return number;
    }

    public void use(int route, int section, int how)
            throws IndexOutOfBoundsException, IllegalArgumentException, IllegalStateException {
        Route user = existingRoute(route);
        Section used = existingSection(section);
        if (!fits(how, used) || user.useOf(section) != NONE) {
            throw new IllegalArgumentException("how does not fit, or the route uses the section already");
        }
        if (user.useCount >= MOST_USES || !allRoutesFree()) {
            throw new IllegalStateException("the route has 6 uses, or a route is not free");
        }
        user.addUse(section, how);
    }

    public int request(int route) throws IndexOutOfBoundsException {
        Route asked = existingRoute(route);
        int answer = judge(asked);
        if (answer == GRANTED) {
            asked.becomeSet();
            wantPointsOf(asked);
            noteApproached();
        }
        return answer;
    }

    public int cancel(int route) throws IndexOutOfBoundsException {
        Route back = existingRoute(route);
        if (back.state != SET) {
            return NOT_SET;
        }
        if (back.approached) {
            back.becomeTimed();
            return TIMER_RUNS;
        }
        back.becomeFree();
        return TAKEN_BACK;
    }

    public boolean occupy(int section) throws IndexOutOfBoundsException {
        Section entered = existingSection(section);
        if (entered.occupied) {
            return false;
        }
        entered.occupied = true;
        runOver(section);
        noteApproached();
        return true;
    }

    public boolean vacate(int section) throws IndexOutOfBoundsException {
        Section left = existingSection(section);
        if (!left.occupied) {
            return false;
        }
        left.occupied = false;
        for (int i = 0; i < routeCount; i++) {
            if (routes[i].state == TAKEN) {
                letGoBehindTrain(routes[i]);
            }
        }
        return true;
    }

    public boolean move(int section, int position) throws IndexOutOfBoundsException, IllegalArgumentException {
        Section moved = existingSection(section);
        if (!moved.hasPoints || (position != 0 && position != 1)) {
            throw new IllegalArgumentException("no points, or position is not 0 or 1");
        }
        if (moved.occupied || isHeld(section)) {
            return false;
        }
        moved.want(position);
        return true;
    }

    public void breakPoints(int section, boolean broken) throws IndexOutOfBoundsException, IllegalArgumentException {
        Section struck = existingSection(section);
        if (!struck.hasPoints) {
            throw new IllegalArgumentException("no points");
        }
        struck.broken = broken;
        noteApproached();
    }

    public void tick(int n) throws IllegalArgumentException {
        if (n < 1 || n > MOST_TICKS) {
            throw new IllegalArgumentException("n is not 1 .. 20");
        }
        for (int i = 0; i < n; i++) {
            passOneTick();
        }
        noteApproached();
    }

    public boolean off(int signal) throws IndexOutOfBoundsException {
        if (!isSignal(signal)) {
            throw new IndexOutOfBoundsException("signal is not 0 .. 5");
        }
        return showsOff(signal);
    }

    public boolean clash(int one, int two) throws IndexOutOfBoundsException {
        Route first = existingRoute(one);
        Route second = existingRoute(two);
        if (one == two) {
            return false;
        }
        return first.signal == second.signal || first.disagrees(first.allUses(), second);
    }

    public int about(int route, int what) throws IndexOutOfBoundsException, IllegalArgumentException {
        Route told = existingRoute(route);
        switch (what) {
            case 0:
                return told.state;
            case 1:
                return told.timer;
            case 2:
                return told.approached ? 1 : 0;
            case 3:
                return told.held;
            case 4:
                return told.runOver;
            default:
                throw new IllegalArgumentException("what is not 0 .. 4");
        }
    }

    public int track(int section, int what) throws IndexOutOfBoundsException, IllegalArgumentException {
        Section told = existingSection(section);
        switch (what) {
            case 0:
                return told.occupied ? 1 : 0;
            case 1:
                return holderOfPass(section);
            case 2:
                return holdersOfFlank(section);
            case 3:
                return told.lie;
            case 4:
                return told.wanted;
            case 5:
                return told.ticksToGo;
            case 6:
                return told.broken ? 1 : 0;
            default:
                throw new IllegalArgumentException("what is not 0 .. 6");
        }
    }

    private boolean isSection(int section) {
        return section >= 0 && section < sectionCount;
    }

    private static boolean isSignal(int signal) {
        return signal >= 0 && signal < SIGNALS;
    }

    private Section existingSection(int section) {
        if (!isSection(section)) {
            throw new IndexOutOfBoundsException("no such section");
        }
        return sections[section];
    }

    private Route existingRoute(int route) {
        if (route < 0 || route >= routeCount) {
            throw new IndexOutOfBoundsException("no such route");
        }
        return routes[route];
    }

    private static boolean fits(int how, Section used) {
        if (how < 0 || how > LAST_HOW) {
            return false;
        }
        return used.hasPoints == (how != PASS_WITHOUT_POINTS);
    }

    private boolean allRoutesFree() {
        for (int i = 0; i < routeCount; i++) {
            if (routes[i].state != FREE) {
                return false;
            }
        }
        return true;
    }

    /** What a request is answered with; the order of the questions is the order of the refusals. */
    private int judge(Route asked) {
        if (asked.state != FREE || !asked.hasPass()) {
            return NOT_TO_BE_SET;
        }
        if (anotherStandsAgainst(asked)) {
            return HELD_BY_ANOTHER;
        }
        if (!passesClear(asked)) {
            return WAY_OCCUPIED;
        }
        if (!pointsMayMove(asked)) {
            return POINTS_OCCUPIED;
        }
        return GRANTED;
    }

    // The asked route is free: it holds nothing, so it never stands against itself.
    private boolean anotherStandsAgainst(Route asked) {
        for (int i = 0; i < routeCount; i++) {
            Route other = routes[i];
            boolean ownsSignal = other.state == SET || other.state == TIMED;
            if (ownsSignal && other.signal == asked.signal) {
                return true;
            }
            if (other.disagrees(other.held, asked)) {
                return true;
            }
        }
        return false;
    }

    private boolean passesClear(Route route) {
        for (int k = 0; k < route.useCount; k++) {
            if (route.isPass(k) && sections[route.useSection[k]].occupied) {
                return false;
            }
        }
        return true;
    }

    private boolean pointsMayMove(Route asked) {
        for (int k = 0; k < asked.useCount; k++) {
            Section used = sections[asked.useSection[k]];
            if (used.hasPoints && used.occupied && used.wanted != asked.positionOf(k)) {
                return false;
            }
        }
        return true;
    }

    private boolean pointsFound(Route route) {
        for (int k = 0; k < route.useCount; k++) {
            Section used = sections[route.useSection[k]];
            if (used.hasPoints && !used.isFoundIn(route.positionOf(k))) {
                return false;
            }
        }
        return true;
    }

    private void wantPointsOf(Route route) {
        for (int k = 0; k < route.useCount; k++) {
            Section used = sections[route.useSection[k]];
            if (used.hasPoints) {
                used.want(route.positionOf(k));
            }
        }
    }

    private boolean showsOff(int signal) {
        for (int i = 0; i < routeCount; i++) {
            Route route = routes[i];
            if (route.signal == signal && route.state == SET && passesClear(route) && pointsFound(route)) {
                return true;
            }
        }
        return false;
    }

    // Only the calls that can turn a signal off or occupy an approach need this behind them:
    // after any other, no route that was not approached can have become so.
    private void noteApproached() {
        for (int i = 0; i < routeCount; i++) {
            Route route = routes[i];
            boolean trainNear = route.approach == NONE || sections[route.approach].occupied;
            if (route.state == SET && trainNear && showsOff(route.signal)) {
                route.approached = true;
            }
        }
    }

    private void runOver(int section) {
        for (int i = 0; i < routeCount; i++) {
            Route route = routes[i];
            int k = route.useOf(section);
            if (k != NONE && route.isPass(k) && route.holds(k)) {
                route.becomeTaken(k);
            }
        }
    }

    private void letGoBehindTrain(Route route) {
        for (int k = 0; k < route.useCount; k++) {
            if (route.isPass(k) && route.holds(k)) {
                if (!route.isRunOver(k) || sections[route.useSection[k]].occupied) {
                    return;
                }
                route.letGoOf(k);
            }
        }
        route.becomeFree();
    }

    private void passOneTick() {
        for (int i = 0; i < sectionCount; i++) {
            sections[i].moveOneTick();
        }
        for (int i = 0; i < routeCount; i++) {
            routes[i].countDown();
        }
    }

    private boolean isHeld(int section) {
        return holderOfPass(section) != NONE || holdersOfFlank(section) != 0;
    }

    private int holderOfPass(int section) {
        for (int i = 0; i < routeCount; i++) {
            int k = routes[i].useOf(section);
            if (k != NONE && routes[i].isPass(k) && routes[i].holds(k)) {
                return i;
            }
        }
        return NONE;
    }

    private int holdersOfFlank(int section) {
        int holders = 0;
        for (int i = 0; i < routeCount; i++) {
            int k = routes[i].useOf(section);
            if (k != NONE && !routes[i].isPass(k) && routes[i].holds(k)) {
                holders |= 1 << i;
            }
        }
        return holders;
    }

    /** A section of track; one without points keeps 0 in all that tells of points. */
    private static final class Section {
        boolean hasPoints;
        boolean occupied;
        boolean broken;
        int lie;
        int wanted;
        int ticksToGo;

        void begin(boolean points) {
            hasPoints = points;
            occupied = false;
            broken = false;
            lie = 0;
            wanted = 0;
            ticksToGo = 0;
        }

        // A position that is wanted already has been wanted from earlier on: its ticks go on.
        void want(int position) {
            if (wanted != position) {
                wanted = position;
                lie = BETWEEN;
                ticksToGo = TICKS_TO_MOVE;
            }
        }

        void moveOneTick() {
            if (ticksToGo > 0) {
                ticksToGo--;
                if (ticksToGo == 0) {
                    lie = wanted;
                }
            }
        }

        boolean isFoundIn(int position) {
            return lie == position && !broken;
        }
    }

    /** A route; held and runOver are sums of 2^k over its uses k. */
    private static final class Route {
        final int[] useSection = new int[MOST_USES];
        final int[] useHow = new int[MOST_USES];
        int useCount;
        int signal;
        int approach;
        int delay;
        int state;
        int timer;
        boolean approached;
        int held;
        int runOver;

        void begin(int itsSignal, int itsApproach, int itsDelay) {
            useCount = 0;
            signal = itsSignal;
            approach = itsApproach;
            delay = itsDelay;
            becomeFree();
        }

        void addUse(int section, int how) {
            if (useCount < MOST_USES) {
                useSection[useCount] = section;
                useHow[useCount] = how;
                useCount++;
            }
        }

        int useOf(int section) {
            for (int k = 0; k < useCount; k++) {
                if (useSection[k] == section) {
                    return k;
                }
            }
            return NONE;
        }

        boolean isPass(int k) {
            return useHow[k] <= LAST_PASS;
        }

        int positionOf(int k) {
            return useHow[k] == PASS_WITHOUT_POINTS ? NONE : (useHow[k] - 1) & 1;
        }

        boolean hasPass() {
            for (int k = 0; k < useCount; k++) {
                if (isPass(k)) {
                    return true;
                }
            }
            return false;
        }

        int allUses() {
            return (1 << useCount) - 1;
        }

        boolean holds(int k) {
            return (held & (1 << k)) != 0;
        }

        boolean isRunOver(int k) {
            return (runOver & (1 << k)) != 0;
        }

        /** Whether some of these uses and a use of the other route cannot be at the same time. */
        boolean disagrees(int uses, Route other) {
            for (int k = 0; k < useCount; k++) {
                int j = other.useOf(useSection[k]);
                boolean shared = (uses & (1 << k)) != 0 && j != NONE;
                if (shared && (isPass(k) && other.isPass(j) || positionOf(k) != other.positionOf(j))) {
                    return true;
                }
            }
            return false;
        }

        void becomeFree() {
            state = FREE;
            timer = 0;
            approached = false;
            held = 0;
            runOver = 0;
        }

        void becomeSet() {
            state = SET;
            held = allUses();
        }

        void becomeTaken(int k) {
            state = TAKEN;
            timer = 0;
            runOver |= 1 << k;
        }

        void becomeTimed() {
            state = TIMED;
            timer = delay;
        }

        void letGoOf(int k) {
            held &= ~(1 << k);
            runOver &= ~(1 << k);
        }

        void countDown() {
            if (state == TIMED) {
                timer--;
                if (timer <= 0) {
                    becomeFree();
                }
            }
        }
    }
}
