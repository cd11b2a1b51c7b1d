import java.util.ArrayList;
import java.util.List;

/**
 * The document's words again, written without regard to room or speed and apart from the program, so that both can
 * be compared over many runs. Every call of the face answers a long: a boolean is 1 or 0, a void 0, an exception one
 * of the constants below.
 */
final class Model {
    static final long INDEX = 1001;
    static final long ARGUMENT = 1002;
    static final long STATE = 1003;

    enum Kind { FREE, SET, TAKEN, TIMED }

    static final class Sec {
        boolean points;
        boolean occupied;
        boolean broken;
        int wanted = 0;
        /** Ticks since the wanted position was wanted; points that never moved have waited long. */
        int since = 99;

        int toGo() {
            return Math.max(0, 3 - since);
        }

        int lie() {
            return toGo() > 0 ? -1 : wanted;
        }
    }

    static final class Use {
        Sec sec;
        boolean pass;
        /** Null without points. */
        Integer position;
        boolean held;
        boolean runOver;

        boolean rivals(Use other) {
            if (sec != other.sec) {
                return false;
            }
            return pass && other.pass || position != null && !position.equals(other.position);
        }
    }

    static final class Rt {
        int signal;
        Sec approach;
        int delay;
        Kind kind = Kind.FREE;
        int timer;
        boolean approached;
        final List<Use> uses = new ArrayList<>();

        void free() {
            kind = Kind.FREE;
            timer = 0;
            approached = false;
            for (Use u : uses) {
                u.held = false;
                u.runOver = false;
            }
        }
    }

    private final List<Sec> secs = new ArrayList<>();
    private final List<Rt> rts = new ArrayList<>();

    /** The call's answer; afterwards, whatever the call was, what the document says to happen after each call. */
    long call(String name, int a, int b, int c) {
        long answer = answer(name, a, b, c);
        for (Rt r : rts) {
            if (r.kind == Kind.SET && isOff(r.signal) && (r.approach == null || r.approach.occupied)) {
                r.approached = true;
            }
        }
        return answer;
    }

    private long answer(String name, int a, int b, int c) {
        switch (name) {
            case "clear":
                secs.clear();
                rts.clear();
                return 0;
            case "section":
                return newSection(a != 0);
            case "route":
                return newRoute(a, b, c);
            case "use":
                return newUse(a, b, c);
            case "request":
                return isRoute(a) ? doRequest(rts.get(a)) : INDEX;
            case "cancel":
                return isRoute(a) ? doCancel(rts.get(a)) : INDEX;
            case "occupy":
                return isSec(a) ? doOccupy(secs.get(a)) : INDEX;
            case "vacate":
                return isSec(a) ? doVacate(secs.get(a)) : INDEX;
            case "move":
                return isSec(a) ? doMove(secs.get(a), b) : INDEX;
            case "breakPoints":
                return isSec(a) ? doBreak(secs.get(a), b != 0) : INDEX;
            case "tick":
                return doTick(a);
            case "off":
                return a < 0 || a > 5 ? INDEX : bit(isOff(a));
            case "clash":
                return isRoute(a) && isRoute(b) ? bit(doClash(rts.get(a), rts.get(b))) : INDEX;
            case "about":
                return isRoute(a) ? doAbout(rts.get(a), b) : INDEX;
            case "track":
                return isSec(a) ? doTrack(secs.get(a), b) : INDEX;
            default:
                throw new AssertionError(name);
        }
    }

    private static long bit(boolean b) {
        return b ? 1 : 0;
    }

    private boolean isSec(int s) {
        return 0 <= s && s < secs.size();
    }

    private boolean isRoute(int r) {
        return 0 <= r && r < rts.size();
    }

    private long newSection(boolean points) {
        if (secs.size() == 12) {
            return STATE;
        }
        Sec s = new Sec();
        s.points = points;
        secs.add(s);
        return secs.size() - 1;
    }

    private long newRoute(int signal, int approach, int delay) {
        if (approach != -1 && !isSec(approach)) {
            return INDEX;
        }
        if (signal < 0 || signal > 5 || delay < 1 || delay > 9) {
            return ARGUMENT;
        }
        if (rts.size() == 8) {
            return STATE;
        }
        Rt r = new Rt();
        r.signal = signal;
        r.approach = approach == -1 ? null : secs.get(approach);
        r.delay = delay;
        rts.add(r);
        return rts.size() - 1;
    }

    private long newUse(int route, int section, int how) {
        if (!isRoute(route) || !isSec(section)) {
            return INDEX;
        }
        Rt r = rts.get(route);
        Sec s = secs.get(section);
        boolean twice = r.uses.stream().anyMatch(u -> u.sec == s);
        if (how < 0 || how > 4 || s.points && how == 0 || !s.points && how != 0 || twice) {
            return ARGUMENT;
        }
        if (r.uses.size() == 6 || rts.stream().anyMatch(x -> x.kind != Kind.FREE)) {
            return STATE;
        }
        Use u = new Use();
        u.sec = s;
        u.pass = how == 0 || how == 1 || how == 2;
        u.position = how == 0 ? null : Integer.valueOf(how == 1 || how == 3 ? 0 : 1);
        r.uses.add(u);
        return 0;
    }

    private long doRequest(Rt r) {
        if (r.kind != Kind.FREE || r.uses.stream().noneMatch(u -> u.pass)) {
            return 1;
        }
        for (Rt other : rts) {
            if (other != r && other.signal == r.signal && (other.kind == Kind.SET || other.kind == Kind.TIMED)) {
                return 2;
            }
            for (Use theirs : other.uses) {
                if (other != r && theirs.held && r.uses.stream().anyMatch(theirs::rivals)) {
                    return 2;
                }
            }
        }
        if (r.uses.stream().anyMatch(u -> u.pass && u.sec.occupied)) {
            return 3;
        }
        if (r.uses.stream().anyMatch(u -> u.position != null && u.position != u.sec.wanted && u.sec.occupied)) {
            return 4;
        }
        r.kind = Kind.SET;
        for (Use u : r.uses) {
            u.held = true;
            if (u.position != null) {
                wish(u.sec, u.position);
            }
        }
        return 0;
    }

    private static void wish(Sec s, int position) {
        if (s.wanted != position) {
            s.wanted = position;
            s.since = 0;
        }
    }

    private static long doCancel(Rt r) {
        if (r.kind != Kind.SET) {
            return 2;
        }
        if (r.approached) {
            r.kind = Kind.TIMED;
            r.timer = r.delay;
            return 1;
        }
        r.free();
        return 0;
    }

    private long doOccupy(Sec s) {
        if (s.occupied) {
            return 0;
        }
        s.occupied = true;
        for (Rt r : rts) {
            for (Use u : r.uses) {
                if (u.sec == s && u.pass && u.held) {
                    r.kind = Kind.TAKEN;
                    r.timer = 0;
                    u.runOver = true;
                }
            }
        }
        return 1;
    }

    private long doVacate(Sec s) {
        if (!s.occupied) {
            return 0;
        }
        s.occupied = false;
        for (Rt r : rts) {
            if (r.kind == Kind.TAKEN) {
                while (firstHeldPass(r) != null && firstHeldPass(r).runOver && !firstHeldPass(r).sec.occupied) {
                    firstHeldPass(r).held = false;
                }
                if (firstHeldPass(r) == null) {
                    r.free();
                }
            }
        }
        return 1;
    }

    private static Use firstHeldPass(Rt r) {
        return r.uses.stream().filter(u -> u.pass && u.held).findFirst().orElse(null);
    }

    private long doMove(Sec s, int position) {
        if (!s.points || position < 0 || position > 1) {
            return ARGUMENT;
        }
        if (s.occupied || rts.stream().anyMatch(r -> r.uses.stream().anyMatch(u -> u.sec == s && u.held))) {
            return 0;
        }
        wish(s, position);
        return 1;
    }

    private static long doBreak(Sec s, boolean broken) {
        if (!s.points) {
            return ARGUMENT;
        }
        s.broken = broken;
        return 0;
    }

    private long doTick(int n) {
        if (n < 1 || n > 20) {
            return ARGUMENT;
        }
        for (Sec s : secs) {
            s.since += n;
        }
        for (Rt r : rts) {
            if (r.kind == Kind.TIMED) {
                r.timer -= n;
                if (r.timer <= 0) {
                    r.free();
                }
            }
        }
        return 0;
    }

    private boolean isOff(int signal) {
        return rts.stream().anyMatch(r -> r.signal == signal && r.kind == Kind.SET
                && r.uses.stream().allMatch(u -> !u.pass || !u.sec.occupied)
                && r.uses.stream().allMatch(u -> u.position == null || u.position == u.sec.lie() && !u.sec.broken));
    }

    private static boolean doClash(Rt one, Rt two) {
        if (one == two) {
            return false;
        }
        return one.signal == two.signal || one.uses.stream().anyMatch(u -> two.uses.stream().anyMatch(u::rivals));
    }

    private static long doAbout(Rt r, int what) {
        int held = 0;
        int runOver = 0;
        for (int k = 0; k < r.uses.size(); k++) {
            Use u = r.uses.get(k);
            held += u.held ? 1 << k : 0;
            runOver += u.held && u.runOver ? 1 << k : 0;
        }
        long[] answers = {r.kind.ordinal(), r.timer, bit(r.approached), held, runOver};
        return what < 0 || what >= answers.length ? ARGUMENT : answers[what];
    }

    private long doTrack(Sec s, int what) {
        int passHolder = -1;
        int flankHolders = 0;
        for (int i = 0; i < rts.size(); i++) {
            for (Use u : rts.get(i).uses) {
                if (u.sec == s && u.held && u.pass) {
                    passHolder = i;
                } else if (u.sec == s && u.held) {
                    flankHolders += 1 << i;
                }
            }
        }
        long[] answers = {bit(s.occupied), passHolder, flankHolders, s.lie(), s.wanted, s.toGo(), bit(s.broken)};
        return what < 0 || what >= answers.length ? ARGUMENT : answers[what];
    }
}
