/** The section "Terms" of the document: what occupying and vacating do to routes. */
public final class TermsTrainsTest {
    public static void main(String[] args) {
        Check.that("each route that holds a pass of it is TAKEN from then on (SET)", TermsTrainsTest::takesASetRoute);
        Check.that("is TAKEN from then on (TIMED; its timer goes)", TermsTrainsTest::takesATimedRoute);
        Check.that("is TAKEN from then on (TAKEN already)", TermsTrainsTest::aTakenRouteStays);
        Check.that("each route that holds a pass of it (no flank)", TermsTrainsTest::notForAFlank);
        Check.that("each route that holds a pass of it (no route that is free)", TermsTrainsTest::notForAFreeRoute);
        Check.that("each route that holds a pass of it (not what was let go)", TermsTrainsTest::notWhatWasLetGo);
        Check.that("each route that holds a pass of it (any of 8)", TermsTrainsTest::anyOfEight);
        Check.that("and that use is run over.", TermsTrainsTest::thatUseIsRunOver);

        Check.that("the passes that it holds are let go (one after the other)", TermsTrainsTest::letGoOneByOne);
        Check.that("as long as they are run over", TermsTrainsTest::notWhenNotRunOver);
        Check.that("and their sections clear", TermsTrainsTest::notWhenOccupied);
        Check.that("up to the first that is not so", TermsTrainsTest::upToTheFirst);
        Check.that("the passes that it holds (flanks neither stop it nor go)", TermsTrainsTest::flanksStay);
        Check.that("when it holds no pass any more, it lets go of all and is FREE.", TermsTrainsTest::freeAtLast);
        Check.that("it lets go of all (flanks that are occupied too)", TermsTrainsTest::flanksGoAtLast);
        Check.that("of each route that is TAKEN (no other)", TermsTrainsTest::onlyTakenRoutes);
        Check.that("of each route that is TAKEN (for itself)", TermsTrainsTest::eachForItself);
        Check.that("of each route that is TAKEN (any of 8, with 6 passes)", TermsTrainsTest::ofAFullFrame);
        Check.end();
    }

    private static void takesASetRoute() {
        for (int s = 0; s < 3; s++) {
            RouteFrame frame = Layout.line();
            frame.request(0);
            frame.occupy(s);
            Check.is("state", frame.about(0, Layout.STATE), Layout.TAKEN);
            Check.is("held", frame.about(0, Layout.HELD), 7);
            frame.tick(20);
            Check.is("later", frame.about(0, Layout.STATE), Layout.TAKEN);
        }
    }

    private static void takesATimedRoute() {
        for (int ticks = 0; ticks <= 3; ticks++) {
            RouteFrame frame = Layout.line();
            frame.request(0);
            frame.cancel(0);
            if (ticks > 0) {
                frame.tick(ticks);
            }
            frame.occupy(0);
            Check.is("state", frame.about(0, Layout.STATE), Layout.TAKEN);
            Check.is("timer", frame.about(0, Layout.TIMER), 0);
            frame.tick(20);
            Check.is("time does not free it", frame.about(0, Layout.STATE), Layout.TAKEN);
            Check.is("held", frame.about(0, Layout.HELD), 7);
        }
        RouteFrame late = Layout.line();
        late.request(0);
        late.cancel(0);
        late.tick(4);
        late.occupy(0);
        Check.is("after the last tick", late.about(0, Layout.STATE), Layout.FREE);
    }

    private static void aTakenRouteStays() {
        RouteFrame frame = Layout.line();
        frame.request(0);
        frame.occupy(0);
        frame.occupy(1);
        frame.occupy(2);
        Check.is("state", frame.about(0, Layout.STATE), Layout.TAKEN);
        Check.is("all are run over", frame.about(0, Layout.RUN_OVER), 7);
    }

    private static void notForAFlank() {
        RouteFrame frame = Layout.junction();
        frame.request(0);
        frame.occupy(4);
        Check.is("state", frame.about(0, Layout.STATE), Layout.SET);
        Check.is("run over", frame.about(0, Layout.RUN_OVER), 0);
        frame.occupy(1);
        frame.vacate(4);
        frame.occupy(4);
        Check.is("run over when it is taken", frame.about(0, Layout.RUN_OVER), 1);
    }

    private static void notForAFreeRoute() {
        RouteFrame frame = Layout.junction();
        frame.request(0);
        frame.occupy(3);
        Check.is("state", frame.about(1, Layout.STATE), Layout.FREE);
        frame.occupy(1);
        Check.is("of a section that another holds", frame.about(1, Layout.STATE), Layout.FREE);
        Check.is("run over", frame.about(1, Layout.RUN_OVER), 0);
    }

    private static void notWhatWasLetGo() {
        RouteFrame frame = Layout.line();
        frame.request(0);
        frame.occupy(0);
        frame.vacate(0);
        frame.occupy(0);
        Check.is("run over", frame.about(0, Layout.RUN_OVER), 0);
        Check.is("held", frame.about(0, Layout.HELD), 6);
    }

    private static void anyOfEight() {
        for (int r : new int[] {0, 5, 7}) {
            RouteFrame frame = Layout.full();
            frame.request(0);
            frame.request(5);
            frame.request(7);
            frame.occupy(r == 7 ? 11 : r);
            for (int other : new int[] {0, 5, 7}) {
                int due = other == r ? Layout.TAKEN : Layout.SET;
                Check.is("state of " + other, frame.about(other, Layout.STATE), due);
            }
        }
    }

    private static void thatUseIsRunOver() {
        for (int s = 0; s < 6; s++) {
            RouteFrame frame = Layout.sixUses();
            frame.request(0);
            frame.occupy(s);
            Check.is("with " + s, frame.about(0, Layout.RUN_OVER), 1 << s);
        }
    }

    private static void letGoOneByOne() {
        RouteFrame frame = Layout.line();
        frame.request(0);
        int[] heldDue = {6, 4, 0};
        for (int s = 0; s < 3; s++) {
            frame.occupy(s);
            frame.vacate(s);
            Check.is("held behind " + s, frame.about(0, Layout.HELD), heldDue[s]);
            Check.is("run over behind " + s, frame.about(0, Layout.RUN_OVER), 0);
            Check.is("holder of " + s, frame.track(s, Layout.PASS_HOLDER), Layout.NONE);
        }
    }

    private static void notWhenNotRunOver() {
        RouteFrame frame = Layout.line();
        frame.request(0);
        frame.occupy(1);
        frame.vacate(1);
        Check.is("the first was not run over", frame.about(0, Layout.HELD), 7);
        Check.is("the second stays run over", frame.about(0, Layout.RUN_OVER), 2);
        Check.is("taken", frame.about(0, Layout.STATE), Layout.TAKEN);
        frame.occupy(0);
        frame.vacate(0);
        Check.is("both go now", frame.about(0, Layout.HELD), 4);
    }

    private static void notWhenOccupied() {
        RouteFrame frame = Layout.line();
        frame.request(0);
        frame.occupy(0);
        frame.occupy(1);
        frame.vacate(1);
        Check.is("the first is occupied", frame.about(0, Layout.HELD), 7);
        Check.is("both stay run over", frame.about(0, Layout.RUN_OVER), 3);
        frame.vacate(0);
        Check.is("both go now", frame.about(0, Layout.HELD), 4);
    }

    private static void upToTheFirst() {
        RouteFrame frame = Layout.sixUses();
        frame.request(0);
        for (int s : new int[] {0, 1, 3, 4}) {
            frame.occupy(s);
        }
        for (int s : new int[] {4, 3, 1}) {
            frame.vacate(s);
            Check.is("behind the first that is occupied", frame.about(0, Layout.HELD), 63);
        }
        frame.vacate(0);
        Check.is("up to the one that was not run over", frame.about(0, Layout.HELD), 4 + 8 + 16 + 32);
        Check.is("run over behind it", frame.about(0, Layout.RUN_OVER), 8 + 16);
        frame.occupy(2);
        frame.occupy(3);
        frame.vacate(2);
        Check.is("up to the one that is occupied again", frame.about(0, Layout.HELD), 8 + 16 + 32);
        frame.vacate(3);
        Check.is("up to the last", frame.about(0, Layout.HELD), 32);
        Check.is("taken", frame.about(0, Layout.STATE), Layout.TAKEN);
    }

    private static void flanksStay() {
        RouteFrame frame = Layout.junction();
        frame.request(0);
        frame.occupy(4);
        frame.occupy(1);
        frame.occupy(2);
        frame.vacate(2);
        frame.vacate(1);
        Check.is("an occupied flank between does not stop it", frame.about(0, Layout.STATE), Layout.FREE);
        RouteFrame held = Layout.junction();
        held.request(0);
        held.occupy(1);
        held.occupy(4);
        held.vacate(4);
        Check.is("a flank does not go when it is vacated", held.about(0, Layout.HELD), 7);
        held.vacate(1);
        Check.is("nor with the pass before it", held.about(0, Layout.HELD), 6);
        Check.is("its points are held", held.track(4, Layout.FLANK_HOLDERS), 1);
    }

    private static void freeAtLast() {
        RouteFrame frame = Layout.junction();
        frame.request(0);
        frame.occupy(0);
        frame.occupy(1);
        frame.occupy(2);
        frame.vacate(0);
        frame.vacate(1);
        Check.is("before the last", frame.about(0, Layout.STATE), Layout.TAKEN);
        frame.vacate(2);
        for (int what = 0; what <= 4; what++) {
            Check.is("about(0, " + what + ")", frame.about(0, what), 0);
        }
        Check.is("flank let go", frame.track(4, Layout.FLANK_HOLDERS), 0);
        Check.is("to be set again", frame.request(0), 0);
        Check.is("with nothing run over", frame.about(0, Layout.RUN_OVER), 0);
    }

    private static void flanksGoAtLast() {
        RouteFrame frame = Layout.overPoints(3);
        frame.request(0);
        frame.occupy(0);
        frame.occupy(1);
        frame.vacate(1);
        Check.is("free", frame.about(0, Layout.STATE), Layout.FREE);
        Check.is("the flank is let go", frame.track(0, Layout.FLANK_HOLDERS), 0);
        Check.is("and still occupied", frame.track(0, Layout.OCCUPIED), 1);
    }

    private static void onlyTakenRoutes() {
        RouteFrame frame = Layout.oneEach(3);
        frame.section(false);
        frame.request(0);
        frame.request(1);
        frame.cancel(1);
        frame.occupy(3);
        frame.vacate(3);
        Check.is("a set route", frame.about(0, Layout.STATE), Layout.SET);
        Check.is("holds", frame.about(0, Layout.HELD), 1);
        Check.is("a timed route", frame.about(1, Layout.STATE), Layout.TIMED);
        Check.is("holds", frame.about(1, Layout.HELD), 1);
        Check.is("its timer", frame.about(1, Layout.TIMER), 5);
        Check.is("a free route", frame.about(2, Layout.STATE), Layout.FREE);
    }

    private static void eachForItself() {
        RouteFrame frame = Layout.oneEach(3);
        for (int r = 0; r < 3; r++) {
            frame.request(r);
            frame.occupy(r);
        }
        frame.vacate(1);
        Check.is("the one before", frame.about(0, Layout.STATE), Layout.TAKEN);
        Check.is("the one that is vacated", frame.about(1, Layout.STATE), Layout.FREE);
        Check.is("the one behind", frame.about(2, Layout.STATE), Layout.TAKEN);
    }

    private static void ofAFullFrame() {
        RouteFrame frame = Layout.full();
        Check.is("request(7)", frame.request(7), 0);
        frame.tick(3);
        int held = 63;
        for (int s = 6; s < 12; s++) {
            frame.occupy(s);
            frame.vacate(s);
            held -= 1 << (s - 6);
            Check.is("held behind " + s, frame.about(7, Layout.HELD), held);
        }
        Check.is("free", frame.about(7, Layout.STATE), Layout.FREE);
    }
}
