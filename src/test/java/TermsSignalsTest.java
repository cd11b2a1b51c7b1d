/** The section "Terms" of the document: signals, and routes that are approached. */
public final class TermsSignalsTest {
    public static void main(String[] args) {
        Check.that("OFF .. just when a route of it is SET", TermsSignalsTest::offWhileSet);
        Check.that("all sections that it passes are clear", TermsSignalsTest::onWhenAPassIsOccupied);
        Check.that("all sections that it passes are clear (others need not be)", TermsSignalsTest::otherSections);
        Check.that("all points that it uses are found in the positions for it.", TermsSignalsTest::allPointsFound);
        Check.that("all points that it uses (others need not be)", TermsSignalsTest::otherPoints);
        Check.that("Otherwise it is on.", TermsSignalsTest::otherwiseOn);

        Check.that("After each call (request)", TermsSignalsTest::afterRequest);
        Check.that("After each call (occupy)", TermsSignalsTest::afterOccupy);
        Check.that("After each call (breakPoints)", TermsSignalsTest::afterBreakPoints);
        Check.that("After each call (tick)", TermsSignalsTest::afterTick);
        Check.that("After each call: each route", TermsSignalsTest::eachRoute);
        Check.that("each route that is SET (no other)", TermsSignalsTest::noOtherThanSet);
        Check.that("whose signal is off", TermsSignalsTest::notWhileTheSignalIsOn);
        Check.that("and whose approach is occupied", TermsSignalsTest::notWhileTheApproachIsClear);
        Check.that("and whose approach is occupied (a section that it passes)", TermsSignalsTest::approachIsPassed);
        Check.that("or which has none", TermsSignalsTest::withoutApproach);
        Check.that("is APPROACHED from then on", TermsSignalsTest::fromThenOn);
        Check.that("until it is free. (by the timer)", TermsSignalsTest::untilFreeByTimer);
        Check.that("until it is free. (behind a train)", TermsSignalsTest::untilFreeBehindATrain);
        Check.end();
    }

    private static void offWhileSet() {
        RouteFrame frame = Layout.line();
        Check.is("free", frame.off(0), false);
        frame.request(0);
        Check.is("set", frame.off(0), true);
        frame.cancel(0);
        Check.is("timed", frame.off(0), false);
        frame.tick(4);
        Check.is("free again", frame.off(0), false);
        frame.request(0);
        Check.is("set again", frame.off(0), true);
        frame.occupy(2);
        frame.vacate(2);
        Check.is("taken, all clear", frame.off(0), false);
    }

    private static void onWhenAPassIsOccupied() {
        for (int s = 0; s < 3; s++) {
            RouteFrame frame = Layout.line();
            frame.request(0);
            Check.is("before", frame.off(0), true);
            frame.occupy(s);
            Check.is("with " + s + " occupied", frame.off(0), false);
        }
    }

    private static void otherSections() {
        RouteFrame frame = Layout.junction();
        frame.request(0);
        frame.occupy(0);
        frame.occupy(3);
        frame.occupy(4);
        Check.is("approach, a strange section and a flank are occupied", frame.off(0), true);
    }

    private static void allPointsFound() {
        for (int s = 6; s < 12; s++) {
            RouteFrame frame = Layout.full();
            frame.request(7);
            Check.is("they move", frame.off(1), false);
            frame.tick(3);
            Check.is("they lie there", frame.off(1), true);
            frame.breakPoints(s, true);
            Check.is("one of them is broken", frame.off(1), false);
        }
        for (int s : new int[] {1, 4}) {
            RouteFrame frame = Layout.junction();
            frame.move(s, 1);
            frame.tick(3);
            frame.request(0);
            frame.tick(2);
            Check.is("one of them is not there yet", frame.off(0), false);
            frame.tick(1);
            Check.is("it is there", frame.off(0), true);
        }
    }

    private static void otherPoints() {
        RouteFrame frame = Layout.full();
        frame.breakPoints(6, true);
        frame.move(7, 1);
        frame.request(0);
        Check.is("points elsewhere are broken and moving", frame.off(0), true);
    }

    private static void otherwiseOn() {
        RouteFrame frame = Layout.busy();
        boolean[] due = {false, false, false, false, false, true};
        for (int signal = 0; signal <= 5; signal++) {
            Check.is("off(" + signal + ")", frame.off(signal), due[signal]);
        }
    }

    private static void afterRequest() {
        RouteFrame frame = Layout.junction();
        frame.occupy(0);
        frame.request(0);
        Check.is("approached", frame.about(0, Layout.APPROACHED), 1);
    }

    private static void afterOccupy() {
        RouteFrame frame = Layout.junction();
        frame.request(0);
        frame.occupy(0);
        Check.is("approached", frame.about(0, Layout.APPROACHED), 1);
    }

    private static void afterBreakPoints() {
        RouteFrame frame = Layout.junction();
        frame.breakPoints(4, true);
        frame.occupy(0);
        frame.request(0);
        Check.is("while they are broken", frame.about(0, Layout.APPROACHED), 0);
        frame.breakPoints(4, false);
        Check.is("when they are mended", frame.about(0, Layout.APPROACHED), 1);
    }

    private static void afterTick() {
        for (int n = 1; n <= 20; n++) {
            RouteFrame frame = Layout.junction();
            frame.request(1);
            frame.tick(n);
            Check.is("after tick(" + n + ")", frame.about(1, Layout.APPROACHED), n < 3 ? 0 : 1);
        }
    }

    private static void eachRoute() {
        RouteFrame frame = Layout.plainSections(7);
        for (int r = 0; r < 6; r++) {
            frame.route(r, 6, 1);
            frame.use(r, r, 0);
        }
        for (int r = 0; r < 6; r++) {
            frame.request(r);
            Check.is("before", frame.about(r, Layout.APPROACHED), 0);
        }
        frame.occupy(6);
        for (int r = 0; r < 6; r++) {
            Check.is("approached " + r, frame.about(r, Layout.APPROACHED), 1);
        }
    }

    private static void noOtherThanSet() {
        RouteFrame frame = Layout.plainSections(3);
        for (int r = 0; r < 2; r++) {
            frame.route(0, 2, 1);
            frame.use(r, r, 0);
        }
        frame.request(0);
        frame.occupy(0);
        frame.request(1);
        frame.occupy(2);
        Check.is("the signal is off", frame.off(0), true);
        Check.is("by a set route, which is approached", frame.about(1, Layout.APPROACHED), 1);
        Check.is("not so a taken route of the same signal", frame.about(0, Layout.APPROACHED), 0);
        RouteFrame free = Layout.junction();
        free.occupy(0);
        Check.is("a free route", free.about(0, Layout.APPROACHED), 0);
    }

    private static void notWhileTheSignalIsOn() {
        RouteFrame frame = Layout.junction();
        frame.breakPoints(4, true);
        frame.occupy(0);
        frame.request(0);
        frame.tick(20);
        Check.is("the signal is on", frame.about(0, Layout.APPROACHED), 0);
        frame.vacate(0);
        frame.breakPoints(4, false);
        Check.is("the train is gone when it is off", frame.about(0, Layout.APPROACHED), 0);
    }

    private static void notWhileTheApproachIsClear() {
        RouteFrame frame = Layout.junction();
        frame.occupy(0);
        frame.vacate(0);
        frame.request(0);
        frame.occupy(3);
        frame.occupy(4);
        frame.tick(20);
        Check.is("other sections are occupied", frame.about(0, Layout.APPROACHED), 0);
        Check.is("off", frame.off(0), true);
        frame.occupy(0);
        Check.is("the approach is", frame.about(0, Layout.APPROACHED), 1);
    }

    private static void approachIsPassed() {
        RouteFrame frame = Layout.plainSections(1);
        frame.route(0, 0, 1);
        frame.use(0, 0, 0);
        frame.request(0);
        frame.occupy(0);
        Check.is("taken", frame.about(0, Layout.STATE), Layout.TAKEN);
        Check.is("the signal is on after the call", frame.about(0, Layout.APPROACHED), 0);
        RouteFrame flank = Layout.sections(true, false);
        flank.route(0, 0, 1);
        flank.use(0, 0, 3);
        flank.use(0, 1, 0);
        flank.request(0);
        flank.occupy(0);
        Check.is("an approach that is a flank", flank.about(0, Layout.APPROACHED), 1);
    }

    private static void withoutApproach() {
        RouteFrame frame = Layout.line();
        Check.is("free", frame.about(0, Layout.APPROACHED), 0);
        frame.request(0);
        Check.is("at once when it is off", frame.about(0, Layout.APPROACHED), 1);
        RouteFrame moving = Layout.junction();
        moving.request(1);
        Check.is("not before it is off", moving.about(1, Layout.APPROACHED), 0);
    }

    private static void fromThenOn() {
        RouteFrame frame = Layout.junction();
        frame.request(0);
        frame.occupy(0);
        frame.vacate(0);
        Check.is("the train is gone", frame.about(0, Layout.APPROACHED), 1);
        frame.breakPoints(4, true);
        Check.is("the signal is on", frame.about(0, Layout.APPROACHED), 1);
        frame.cancel(0);
        Check.is("timed", frame.about(0, Layout.APPROACHED), 1);
        frame.occupy(1);
        Check.is("taken", frame.about(0, Layout.APPROACHED), 1);
    }

    private static void untilFreeByTimer() {
        RouteFrame frame = Layout.junction();
        frame.request(0);
        frame.occupy(0);
        frame.cancel(0);
        frame.tick(2);
        Check.is("before the last tick", frame.about(0, Layout.APPROACHED), 1);
        frame.tick(1);
        Check.is("free", frame.about(0, Layout.APPROACHED), 0);
        frame.vacate(0);
        frame.request(0);
        Check.is("set again without a train", frame.about(0, Layout.APPROACHED), 0);
    }

    private static void untilFreeBehindATrain() {
        RouteFrame frame = Layout.junction();
        frame.request(0);
        frame.occupy(0);
        frame.occupy(1);
        frame.vacate(0);
        frame.occupy(2);
        frame.vacate(1);
        Check.is("before it leaves", frame.about(0, Layout.APPROACHED), 1);
        frame.vacate(2);
        Check.is("free", frame.about(0, Layout.APPROACHED), 0);
        frame.request(0);
        Check.is("set again without a train", frame.about(0, Layout.APPROACHED), 0);
    }
}
