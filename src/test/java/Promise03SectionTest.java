public final class Promise03SectionTest {
    public static void main(String[] args) {
        Check.that("A new section; answers its number.", Promise03SectionTest::numbers);
        Check.that("A new section (with points or without)", Promise03SectionTest::points);
        Check.that("A new section (whatever routes do)", Promise03SectionTest::whileARouteIsSet);
        Check.that("IllegalStateException when there are 12.", Promise03SectionTest::atMostTwelve);
        Check.that("IllegalStateException when there are 12. (again and again)", Promise03SectionTest::stillTwelve);
        Check.end();
    }

    private static void numbers() {
        RouteFrame frame = new RouteFrame();
        for (int s = 0; s < 12; s++) {
            Check.raisesIndex("before it is made, track(" + s + ", 0)", trackOf(frame, s));
            Check.is("section", frame.section(s % 3 == 0), s);
            Check.is("when it is made, track(" + s + ", 0)", frame.track(s, 0), 0);
        }
    }

    private static Runnable trackOf(RouteFrame frame, int section) {
        return () -> frame.track(section, 0);
    }

    private static void points() {
        RouteFrame frame = Layout.sections(false, true);
        Check.is("move of a section with points", frame.move(1, 1), true);
        Check.raisesArgument("move of a section without points", () -> frame.move(0, 1));
        frame.route(0, Layout.NONE, 1);
        frame.use(0, 0, 0);
        frame.use(0, 1, 1);
        Check.is("both fit their uses", frame.request(0), 0);
    }

    private static void whileARouteIsSet() {
        RouteFrame frame = Layout.line();
        frame.request(0);
        Check.is("a section while a route is set", frame.section(true), 3);
        Check.is("the route is still set", frame.about(0, Layout.STATE), Layout.SET);
        Check.is("none holds the new section", frame.track(3, Layout.PASS_HOLDER), Layout.NONE);
    }

    private static void atMostTwelve() {
        for (boolean points : new boolean[] {false, true}) {
            RouteFrame frame = Layout.plainSections(11);
            Check.is("the 12th section", frame.section(points), 11);
            Check.refusesState("a 13th section", frame, () -> frame.section(points));
            Check.is("sections after the 13th", Snapshot.countSections(frame), 12);
        }
    }

    private static void stillTwelve() {
        RouteFrame frame = Layout.plainSections(12);
        for (int i = 0; i < 400; i++) {
            Check.raisesState("one more section", () -> frame.section(true));
        }
        Check.is("sections", Snapshot.countSections(frame), 12);
        frame.clear();
        Check.is("section after clear", frame.section(true), 0);
    }
}
