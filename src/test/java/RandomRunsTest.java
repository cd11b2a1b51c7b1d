import java.util.Random;

/** Runs of up to 512 random calls, always the same ones, each answered by the program as by the model. */
public final class RandomRunsTest {
    private static final int RUNS = 3000;
    private static final int CALLS = 512;
    private static final int LINES_SHOWN = 40;

    private final Random random;
    private final RouteFrame frame = new RouteFrame();
    private final Model model = new Model();
    private final StringBuilder told = new StringBuilder();
    private int calls = 0;
    private int sections = 0;
    private int routes = 0;
    private boolean wrong = false;

    private RandomRunsTest(long seed) {
        random = new Random(seed);
    }

    public static void main(String[] args) {
        for (int seed = 1; seed <= RUNS; seed++) {
            RandomRunsTest run = new RandomRunsTest(seed);
            run.play();
            if (run.wrong) {
                Check.report("run " + seed + ":\n" + run.lastLines());
                break;
            }
        }
        Check.end();
    }

    private void play() {
        layOut();
        while (calls < CALLS && !wrong) {
            if (random.nextInt(400) == 0) {
                call("clear", 0, 0, 0);
                sections = 0;
                routes = 0;
                layOut();
            }
            oneCall();
        }
    }

    private void layOut() {
        int sectionsDue = 1 + random.nextInt(random.nextInt(4) == 0 ? 13 : 6);
        int routesDue = 1 + random.nextInt(random.nextInt(4) == 0 ? 9 : 4);
        for (int i = 0; i < sectionsDue; i++) {
            boolean made = call("section", random.nextInt(2), 0, 0) < Model.INDEX;
            sections += made ? 1 : 0;
        }
        for (int i = 0; i < routesDue; i++) {
            boolean made = call("route", random.nextInt(6), aSection(), 1 + random.nextInt(9)) < Model.INDEX;
            routes += made ? 1 : 0;
        }
        int uses = routesDue * (1 + random.nextInt(5));
        for (int i = 0; i < uses; i++) {
            int route = aRoute();
            int section = aSection();
            // The kind of the section is not known here: one of the two calls fits, as far as any does.
            call("use", route, section, 1 + random.nextInt(4));
            call("use", route, section, 0);
        }
    }

    private void oneCall() {
        int kind = random.nextInt(100);
        if (kind < 14) {
            call("request", aRoute(), 0, 0);
        } else if (kind < 19) {
            call("cancel", aRoute(), 0, 0);
        } else if (kind < 29) {
            call("occupy", aSection(), 0, 0);
        } else if (kind < 42) {
            call("vacate", aSection(), 0, 0);
        } else if (kind < 47) {
            call("move", aSection(), random.nextInt(10) == 0 ? anyNumber() : random.nextInt(2), 0);
        } else if (kind < 51) {
            call("breakPoints", aSection(), random.nextInt(3) == 0 ? 1 : 0, 0);
        } else if (kind < 59) {
            call("tick", random.nextInt(10) == 0 ? anyNumber() : 1 + random.nextInt(4), 0, 0);
        } else if (kind < 65) {
            call("off", random.nextInt(20) == 0 ? anyNumber() : random.nextInt(6), 0, 0);
        } else if (kind < 67) {
            call("clash", aRoute(), aRoute(), 0);
        } else if (kind < 81) {
            call("about", aRoute(), random.nextInt(20) == 0 ? anyNumber() : random.nextInt(5), 0);
        } else if (kind < 97) {
            call("track", aSection(), random.nextInt(20) == 0 ? anyNumber() : random.nextInt(7), 0);
        } else if (kind < 98) {
            call("use", aRoute(), aSection(), random.nextInt(5));
        } else if (kind < 99) {
            boolean made = call("route", anyNumber(), anyNumber(), anyNumber()) < Model.INDEX;
            routes += made ? 1 : 0;
        } else if (random.nextInt(4) == 0) {
            boolean made = call("section", random.nextInt(2), 0, 0) < Model.INDEX;
            sections += made ? 1 : 0;
        }
    }

    private int aSection() {
        return sections == 0 || random.nextInt(40) == 0 ? anyNumber() : random.nextInt(sections);
    }

    private int aRoute() {
        return routes == 0 || random.nextInt(40) == 0 ? anyNumber() : random.nextInt(routes);
    }

    private int anyNumber() {
        int kind = random.nextInt(20);
        if (kind == 0) {
            return random.nextInt();
        }
        return kind < 4 ? random.nextInt(30) - 5 : random.nextInt(9) - 2;
    }

    private long call(String name, int a, int b, int c) {
        if (calls >= CALLS || wrong) {
            return Model.STATE;
        }
        calls++;
        long due = model.call(name, a, b, c);
        long got = ask(name, a, b, c);
        told.append(name).append('(').append(a).append(", ").append(b).append(", ").append(c).append(") answered ")
                .append(got).append(got == due ? "" : ", due is " + due).append('\n');
        wrong = got != due;
        return due;
    }

    private long ask(String name, int a, int b, int c) {
        try {
            return answer(name, a, b, c);
        } catch (IndexOutOfBoundsException e) {
            return e.getClass() == IndexOutOfBoundsException.class ? Model.INDEX : Long.MIN_VALUE;
        } catch (IllegalArgumentException e) {
            return e.getClass() == IllegalArgumentException.class ? Model.ARGUMENT : Long.MIN_VALUE;
        } catch (IllegalStateException e) {
            return e.getClass() == IllegalStateException.class ? Model.STATE : Long.MIN_VALUE;
        }
    }

    private long answer(String name, int a, int b, int c) {
        switch (name) {
            case "clear":
                frame.clear();
                return 0;
            case "section":
                return frame.section(a != 0);
            case "route":
                return frame.route(a, b, c);
            case "use":
                frame.use(a, b, c);
                return 0;
            case "request":
                return frame.request(a);
            case "cancel":
                return frame.cancel(a);
            case "occupy":
                return frame.occupy(a) ? 1 : 0;
            case "vacate":
                return frame.vacate(a) ? 1 : 0;
            case "move":
                return frame.move(a, b) ? 1 : 0;
            case "breakPoints":
                frame.breakPoints(a, b != 0);
                return 0;
            case "tick":
                frame.tick(a);
                return 0;
            case "off":
                return frame.off(a) ? 1 : 0;
            case "clash":
                return frame.clash(a, b) ? 1 : 0;
            case "about":
                return frame.about(a, b);
            case "track":
                return frame.track(a, b);
            default:
                throw new AssertionError(name);
        }
    }

    private String lastLines() {
        String[] lines = told.toString().split("\n");
        StringBuilder last = new StringBuilder();
        for (int i = Math.max(0, lines.length - LINES_SHOWN); i < lines.length; i++) {
            last.append(lines[i]).append('\n');
        }
        return last.toString();
    }
}
