public final class Promise09VacateTest {
    public static void main(String[] args) {
        becomesClear();
        letsGoSectionBySection();
        stopsAtTheFirstThatIsNotSo();
        flanksStayUntilTheEnd();
        allRoutesThatAreTaken();
        aFullFrame();
        wrongInputs();
        Check.end();
    }

    private static void becomesClear() {
        RouteFrame frame = Layout.sections(false, true);
        Check.is("vacate of a clear section", frame.vacate(1), false);
        frame.occupy(0);
        frame.occupy(1);
        Check.is("vacate(1)", frame.vacate(1), true);
        Check.is("clear", frame.track(1, Layout.OCCUPIED), 0);
        Check.is("the other is not", frame.track(0, Layout.OCCUPIED), 1);
        Check.is("vacate(1) again", frame.vacate(1), false);
    }

    private static void letsGoSectionBySection() {
        RouteFrame frame = Layout.line();
        frame.request(0);
        int[] heldDue = {6, 4, 0};
        for (int s = 0; s < 3; s++) {
            frame.occupy(s);
            Check.is("run over by a train in " + s, frame.about(0, Layout.RUN_OVER), 1 << s);
            frame.vacate(s);
            Check.is("held behind a train that left " + s, frame.about(0, Layout.HELD), heldDue[s]);
            Check.is("run over of these", frame.about(0, Layout.RUN_OVER), 0);
            Check.is("holder of " + s, frame.track(s, Layout.PASS_HOLDER), RouteFrame.NONE);
        }
        Check.is("free behind the train", frame.about(0, Layout.STATE), Layout.FREE);
        Check.is("not approached any more", frame.about(0, Layout.APPROACHED), 0);
        Check.is("to be set again", frame.request(0), 0);
        Check.is("with nothing run over", frame.about(0, Layout.RUN_OVER), 0);
    }

    private static void stopsAtTheFirstThatIsNotSo() {
        RouteFrame frame = Layout.line();
        frame.request(0);
        frame.occupy(1);
        frame.vacate(1);
        Check.is("the first was not run over", frame.about(0, Layout.HELD), 7);
        Check.is("the second stays run over", frame.about(0, Layout.RUN_OVER), 2);
        frame.occupy(0);
        frame.occupy(2);
        frame.vacate(2);
        Check.is("the first is occupied", frame.about(0, Layout.HELD), 7);
        Check.is("all are run over", frame.about(0, Layout.RUN_OVER), 7);
        Check.is("taken", frame.about(0, Layout.STATE), Layout.TAKEN);
        frame.occupy(1);
        frame.vacate(0);
        Check.is("the second is occupied again", frame.about(0, Layout.HELD), 6);
        frame.vacate(1);
        Check.is("all are let go at once", frame.about(0, Layout.STATE), Layout.FREE);
    }

    private static void flanksStayUntilTheEnd() {
        RouteFrame frame = Layout.junction();
        frame.request(0);
        frame.occupy(1);
        frame.occupy(2);
        frame.occupy(4);
        frame.vacate(4);
        Check.is("a flank is no pass", frame.about(0, Layout.HELD), 7);
        frame.vacate(1);
        Check.is("the flank behind it does not stop it, and stays", frame.about(0, Layout.HELD), 6);
        Check.is("points behind the train can be moved", frame.move(1, 1), true);
        Check.is("points of the flank cannot", frame.move(4, 1), false);
        frame.occupy(4);
        frame.vacate(2);
        Check.is("free with the last pass, the flank occupied", frame.about(0, Layout.STATE), Layout.FREE);
        Check.is("the flank is let go", frame.track(4, Layout.FLANK_HOLDERS), 0);
    }

    private static void allRoutesThatAreTaken() {
        RouteFrame frame = Layout.sections(false, false, false);
        for (int r = 0; r < 3; r++) {
            frame.route(r, RouteFrame.NONE, 5);
            frame.use(r, r, 0);
        }
        for (int r = 0; r < 3; r++) {
            frame.request(r);
        }
        frame.occupy(1);
        frame.occupy(2);
        frame.cancel(0);
        frame.vacate(2);
        Check.is("the timed one stays", frame.about(0, Layout.STATE), Layout.TIMED);
        Check.is("the one whose section is occupied stays", frame.about(1, Layout.STATE), Layout.TAKEN);
        Check.is("the one that is vacated is free", frame.about(2, Layout.STATE), Layout.FREE);
    }

    private static void aFullFrame() {
        RouteFrame frame = Layout.full();
        Check.is("request(7)", frame.request(7), 0);
        frame.tick(3);
        Check.is("off(1)", frame.off(1), true);
        int held = 63;
        for (int s = 6; s < 12; s++) {
            frame.occupy(s);
            frame.vacate(s);
            held -= 1 << (s - 6);
            Check.is("held behind " + s, frame.about(7, Layout.HELD), held);
        }
        Check.is("free", frame.about(7, Layout.STATE), Layout.FREE);
    }

    private static void wrongInputs() {
        for (int none : new int[] {-1, 5, 12, Integer.MIN_VALUE, Integer.MAX_VALUE}) {
            RouteFrame frame = Layout.junction();
            Check.refusesIndex("vacate(" + none + ")", frame, () -> frame.vacate(none));
        }
    }
}
