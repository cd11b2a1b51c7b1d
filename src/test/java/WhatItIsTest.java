/** The section "What it is" of the document: an object holds for 512 calls after it has been made. */
public final class WhatItIsTest {
    private static final int CALLS = 512;

    public static void main(String[] args) {
        Check.that("used for at most 512 calls (trains to the last call)", WhatItIsTest::trains);
        Check.that("used for at most 512 calls (ticks to the last call)", WhatItIsTest::ticks);
        Check.that("used for at most 512 calls (clear to the last call)", WhatItIsTest::clears);
        Check.that("used for at most 512 calls (throwing to the last call)", WhatItIsTest::throwing);
        Check.end();
    }

    /** 7 calls to lay out, 63 rounds of 8 calls, and one last: 512. */
    private static void trains() {
        RouteFrame frame = Layout.line();
        int calls = 7;
        while (calls + 8 < CALLS) {
            Check.is("request before call " + calls, frame.request(0), 0);
            Check.is("off before call " + calls, frame.off(0), true);
            for (int s = 0; s < 3; s++) {
                Check.is("occupy before call " + calls, frame.occupy(s), true);
                Check.is("vacate before call " + calls, frame.vacate(s), true);
            }
            calls += 8;
        }
        Check.is("calls before the last", calls, CALLS - 1);
        Check.is("the last call", frame.request(0), 0);
    }

    /** The most ticks that there can be: nothing that counts may run below 0 or round. */
    private static void ticks() {
        RouteFrame frame = Layout.overPoints(2);
        frame.section(true);
        frame.request(0);
        frame.tick(3);
        frame.occupy(1);
        frame.move(2, 1);
        int calls = 10;
        while (calls < CALLS - 9) {
            frame.tick(20);
            calls++;
        }
        Check.is("state", frame.about(0, Layout.STATE), Layout.TAKEN);
        Check.is("timer", frame.about(0, Layout.TIMER), 0);
        Check.is("held", frame.about(0, Layout.HELD), 3);
        Check.is("points that are held", frame.track(0, Layout.LIE), 1);
        Check.is("their ticks to go", frame.track(0, Layout.TO_GO), 0);
        Check.is("points that were moved", frame.track(2, Layout.LIE), 1);
        Check.is("their ticks to go", frame.track(2, Layout.TO_GO), 0);
        Check.is("move back", frame.move(2, 0), true);
        Check.is("the last call", frame.track(2, Layout.TO_GO), 3);
    }

    private static void clears() {
        RouteFrame frame = new RouteFrame();
        for (int calls = 0; calls + 4 <= CALLS; calls += 4) {
            Check.is("section before call " + calls, frame.section(true), 0);
            Check.is("route before call " + calls, frame.route(0, 0, 1), 0);
            Check.is("move before call " + calls, frame.move(0, 1), true);
            frame.clear();
        }
    }

    private static void throwing() {
        RouteFrame frame = new RouteFrame();
        for (int s = 0; s < 12; s++) {
            Check.is("section", frame.section(false), s);
        }
        for (int calls = 12; calls < CALLS - 1; calls++) {
            Check.raisesState("section before call " + calls, () -> frame.section(false));
        }
        Check.is("the last call", frame.occupy(11), true);
    }
}
