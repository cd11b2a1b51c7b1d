public final class Promise01NewObjectTest {
    public static void main(String[] args) {
        RouteFrame frame = new RouteFrame();
        Check.is("sections of a new object", Snapshot.countSections(frame), 0);
        Check.is("routes of a new object", Snapshot.countRoutes(frame), 0);
        for (int signal = 0; signal <= 5; signal++) {
            Check.is("off(" + signal + ") of a new object", frame.off(signal), false);
        }
        Check.is("NONE", RouteFrame.NONE, -1);

        RouteFrame other = new RouteFrame();
        other.section(true);
        other.route(0, 0, 1);
        Check.is("sections beside another object", Snapshot.countSections(frame), 0);
        Check.is("routes beside another object", Snapshot.countRoutes(frame), 0);
        Check.end();
    }
}
