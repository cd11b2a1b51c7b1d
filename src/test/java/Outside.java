import java.util.ArrayList;
import java.util.List;

/** Numbers outside a range: just beside it, far away, and such that a narrower number would wrap round into it. */
final class Outside {
    private Outside() {
    }

    static int[] of(int low, int high) {
        List<Integer> found = new ArrayList<>();
        found.add(low - 1);
        found.add(high + 1);
        for (int width : new int[] {5, 8, 16, 31}) {
            found.add(low + (1 << width));
            found.add(high - (1 << width));
        }
        found.add(Integer.MIN_VALUE);
        found.add(Integer.MAX_VALUE);
        return found.stream().mapToInt(Integer::intValue).filter(n -> n < low || n > high).distinct().toArray();
    }
}
