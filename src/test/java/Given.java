import java.util.ArrayList;
import java.util.Collections;
import java.util.List;

/** Makes objects with told lists, target and capacity, by calls alone. */
final class Given {
    // Pages that stand in the cache for a while so that others are evicted. Told keys are below them.
    private static final int FIRST_HELPER = 9000;
    private static final int HELPERS = 16;
    private static final int FIRST_LIFT = 9500;
    private static final int WIDE = 32;

    private Given() {
    }

    /**
     * The lists are told as Shown.lists tells them. The target and the recent ghosts, and the ghosts of both
     * kinds, may be 16 together; the lists must be such that no call need shorten them at this capacity.
     */
    static AdaptiveReplacementCache lists(int capacity, int target, String lists) {
        String[] parts = lists.split("\\|");
        List<Integer> recent = oldestFirst(parts[0]);
        List<Integer> frequent = oldestFirst(parts[1]);
        List<Integer> recentGhosts = oldestFirst(parts[2]);
        List<Integer> frequentGhosts = oldestFirst(parts[3]);
        AdaptiveReplacementCache x = new AdaptiveReplacementCache();
        x.setCapacity(WIDE);
        makeRecentGhosts(x, target, recentGhosts);
        makeFrequentGhosts(x, frequentGhosts);
        requestTwice(x, frequent);
        requestOnce(x, recent);
        x.setCapacity(capacity);
        TestTools.CHECK.dueText("the lists that are given", Shown.lists(x), lists);
        TestTools.CHECK.due("the target that is given", x.target(), target);
        TestTools.CHECK.due("the capacity that is given", x.capacity(), capacity);
        return x;
    }

    /** While the target is 0 pages leave the recent list first; each lift then raises the target by 1. */
    private static void makeRecentGhosts(AdaptiveReplacementCache x, int target, List<Integer> keys) {
        requestTwice(x, numbers(FIRST_HELPER, HELPERS));
        requestOnce(x, numbers(FIRST_LIFT, target));
        requestOnce(x, keys);
        x.setCapacity(HELPERS);
        x.setCapacity(WIDE);
        requestOnce(x, numbers(FIRST_LIFT, target));
        removeAll(x, numbers(FIRST_LIFT, target));
        removeAll(x, numbers(FIRST_HELPER, HELPERS));
    }

    private static void makeFrequentGhosts(AdaptiveReplacementCache x, List<Integer> keys) {
        requestTwice(x, keys);
        requestTwice(x, numbers(FIRST_HELPER, HELPERS));
        x.setCapacity(HELPERS);
        x.setCapacity(WIDE);
        removeAll(x, numbers(FIRST_HELPER, HELPERS));
    }

    private static void requestOnce(AdaptiveReplacementCache x, List<Integer> keys) {
        for (int key : keys) {
            x.request(key);
        }
    }

    private static void requestTwice(AdaptiveReplacementCache x, List<Integer> keys) {
        for (int key : keys) {
            x.request(key);
            x.request(key);
        }
    }

    private static void removeAll(AdaptiveReplacementCache x, List<Integer> keys) {
        for (int key : keys) {
            x.remove(key);
        }
    }

    private static List<Integer> numbers(int first, int count) {
        List<Integer> numbers = new ArrayList<>();
        for (int i = 0; i < count; i++) {
            numbers.add(first + i);
        }
        return numbers;
    }

    static List<Integer> oldestFirst(String part) {
        List<Integer> keys = new ArrayList<>();
        for (String word : part.trim().split(" ")) {
            if (Character.isDigit(word.charAt(0))) {
                keys.add(Integer.valueOf(word));
            }
        }
        Collections.reverse(keys);
        return keys;
    }
}
