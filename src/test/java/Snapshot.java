/** All that the queries tell of a frame, as one text; of a full frame it takes some 180 calls. */
final class Snapshot {
    private Snapshot() {
    }

    static String of(RouteFrame frame) {
        int sections = countSections(frame);
        int routes = countRoutes(frame);
        StringBuilder text = new StringBuilder();
        for (int s = 0; s < sections; s++) {
            text.append("section ").append(s).append(':');
            for (int what = 0; what <= 6; what++) {
                text.append(' ').append(frame.track(s, what));
            }
            text.append('\n');
        }
        for (int r = 0; r < routes; r++) {
            text.append("route ").append(r).append(':');
            for (int what = 0; what <= 4; what++) {
                text.append(' ').append(frame.about(r, what));
            }
            text.append(" clashes");
            for (int other = 0; other < r; other++) {
                text.append(frame.clash(r, other) ? " 1" : " 0");
            }
            text.append('\n');
        }
        text.append("signals:");
        for (int signal = 0; signal <= 5; signal++) {
            text.append(frame.off(signal) ? " off" : " on");
        }
        return text.toString();
    }

    static int countSections(RouteFrame frame) {
        int count = 0;
        try {
            while (count < 100) {
                frame.track(count, 0);
                count++;
            }
        } catch (IndexOutOfBoundsException e) {
            return count;
        }
        return count;
    }

    static int countRoutes(RouteFrame frame) {
        int count = 0;
        try {
            while (count < 100) {
                frame.about(count, 0);
                count++;
            }
        } catch (IndexOutOfBoundsException e) {
            return count;
        }
        return count;
    }
}
