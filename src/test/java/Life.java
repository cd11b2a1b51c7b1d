import java.util.function.Consumer;
import java.util.function.Supplier;

/** Whether a call leaves a frame as it was, in all that can be seen then and in all that can be seen later. */
final class Life {
    private Life() {
    }

    /** The call, which may throw, changes nothing of a frame that {@link Layout#busy} made. */
    static void ofABusyFrameIsNotChangedBy(String what, Consumer<RouteFrame> call) {
        isNotChangedBy(what, Layout::busy, Life::goesOn, call);
    }

    /** The call, which may throw, changes nothing of a frame whose routes are all free and which has room. */
    static void ofAFrameWithRoomIsNotChangedBy(String what, Consumer<RouteFrame> call) {
        isNotChangedBy(what, Layout::junction, Life::isBuiltOn, call);
    }

    /** The call, which may throw, changes nothing of a frame whose one route has 6 uses. */
    static void ofSixUsesIsNotChangedBy(String what, Consumer<RouteFrame> call) {
        isNotChangedBy(what, Layout::sixUses, Life::isRunThrough, call);
    }

    private static void isNotChangedBy(
            String what, Supplier<RouteFrame> begin, Consumer<Teller> later, Consumer<RouteFrame> call) {
        RouteFrame asked = begin.get();
        try {
            call.accept(asked);
        } catch (IndexOutOfBoundsException | IllegalArgumentException | IllegalStateException e) {
            // Which one is due is another test's question.
        }
        Teller due = new Teller(begin.get());
        Teller got = new Teller(asked);
        later.accept(due);
        later.accept(got);
        Check.is("the life after " + what, got.text.toString(), due.text.toString());
    }

    /** A frame together with what it has answered. */
    private static final class Teller {
        final RouteFrame frame;
        final StringBuilder text = new StringBuilder();

        Teller(RouteFrame itsFrame) {
            frame = itsFrame;
        }

        void tell(String what, Object answer) {
            text.append(what).append(' ').append(answer).append('\n');
        }
    }

    /** Lets everything of a busy frame come to its end, and each route show its approach, delay, signal and uses. */
    private static void goesOn(Teller told) {
        RouteFrame frame = told.frame;
        told.tell("at once", Snapshot.of(frame));
        frame.tick(1);
        told.tell("request(3)", frame.request(3));
        frame.tick(1);
        told.tell("off(1)", frame.off(1));
        told.tell("approached before the train", frame.about(1, Layout.APPROACHED));
        frame.occupy(6);
        told.tell("cancel(1)", frame.cancel(1));
        told.tell("timer of 1", frame.about(1, Layout.TIMER));
        told.tell("timer of 2", frame.about(2, Layout.TIMER));
        told.tell("vacate(1)", frame.vacate(1));
        told.tell("held by 0", frame.about(0, Layout.HELD));
        told.tell("occupy(2)", frame.occupy(2));
        told.tell("vacate(2)", frame.vacate(2));
        told.tell("state of 0", frame.about(0, Layout.STATE));
        told.tell("cancel(7)", frame.cancel(7));
        told.tell("timer of 7", frame.about(7, Layout.TIMER));
        frame.tick(9);
        told.tell("vacate(11)", frame.vacate(11));
        told.tell("move(11, 0)", frame.move(11, 0));
        frame.breakPoints(5, false);
        told.tell("request(3)", frame.request(3));
        frame.tick(3);
        frame.occupy(0);
        told.tell("off(3)", frame.off(3));
        told.tell("cancel(3)", frame.cancel(3));
        told.tell("timer of 3", frame.about(3, Layout.TIMER));
        frame.tick(1);
        frame.vacate(0);
        frame.vacate(6);
        frame.occupy(11);
        told.tell("request(4)", frame.request(4));
        told.tell("held by 4", frame.about(4, Layout.HELD));
        told.tell("cancel(4)", frame.cancel(4));
        told.tell("timer of 4", frame.about(4, Layout.TIMER));
        frame.tick(4);
        frame.use(5, 10, 0);
        told.tell("request(5)", frame.request(5));
        told.tell("held by 5", frame.about(5, Layout.HELD));
        told.tell("cancel(5)", frame.cancel(5));
        told.tell("timer of 5", frame.about(5, Layout.TIMER));
        told.tell("in the end", Snapshot.of(frame));
    }

    /** Gives a junction another section, route and uses, and lets all its routes be set one after the other. */
    private static void isBuiltOn(Teller told) {
        RouteFrame frame = told.frame;
        told.tell("at once", Snapshot.of(frame));
        told.tell("section", frame.section(true));
        told.tell("route", frame.route(5, 2, 9));
        frame.use(2, 5, 2);
        frame.use(0, 5, 3);
        frame.use(1, 4, 4);
        frame.occupy(0);
        for (int r = 0; r < 3; r++) {
            told.tell("request of " + r, frame.request(r));
            told.tell("held by " + r, frame.about(r, Layout.HELD));
            frame.tick(3);
            told.tell("off by " + r, frame.off(0) + " " + frame.off(1) + " " + frame.off(5));
            told.tell("cancel of " + r, frame.cancel(r));
            told.tell("timer of " + r, frame.about(r, Layout.TIMER));
            told.tell("then", Snapshot.of(frame));
            frame.tick(9);
        }
    }

    private static void isRunThrough(Teller told) {
        RouteFrame frame = told.frame;
        told.tell("at once", Snapshot.of(frame));
        told.tell("request(0)", frame.request(0));
        told.tell("held", frame.about(0, Layout.HELD));
        for (int s = 0; s < 6; s++) {
            frame.occupy(s);
            told.tell("run over", frame.about(0, Layout.RUN_OVER));
            frame.vacate(s);
        }
        told.tell("in the end", Snapshot.of(frame));
    }
}
