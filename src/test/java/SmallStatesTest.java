import java.util.ArrayList;
import java.util.List;

/**
 * Every state of a small cache, told by the lengths of its lists, its target and capacity, and in each of them
 * each kind of call: the object does what the model does. So each length meets each bound, and those beside it.
 */
public final class SmallStatesTest extends TestTools {
    private static final int LARGEST = 5;
    private static final int NEW_KEY = 500;

    private final int capacity;
    private final int target;
    private final int[] lengths;

    private SmallStatesTest(int capacity, int target, int[] lengths) {
        this.capacity = capacity;
        this.target = target;
        this.lengths = lengths;
    }

    public static void main(String[] args) {
        int states = 0;
        for (int capacity = 1; capacity <= LARGEST; capacity++) {
            for (int[] lengths : lengthsUnder(capacity)) {
                for (int target = 0; target <= capacity; target++) {
                    new SmallStatesTest(capacity, target, lengths).compare();
                    states++;
                }
            }
        }
        System.out.println(states + " states");
        CHECK.end();
    }

    /** The lengths of the four lists: pages, and recent list and recent ghosts, up to the capacity; all up to twice that. */
    private static List<int[]> lengthsUnder(int capacity) {
        List<int[]> found = new ArrayList<>();
        for (int recent = 0; recent <= capacity; recent++) {
            for (int frequent = 0; recent + frequent <= capacity; frequent++) {
                for (int recentGhosts = 0; recent + recentGhosts <= capacity; recentGhosts++) {
                    int others = recent + frequent + recentGhosts;
                    for (int frequentGhosts = 0; others + frequentGhosts <= 2 * capacity; frequentGhosts++) {
                        found.add(new int[] {recent, frequent, recentGhosts, frequentGhosts});
                    }
                }
            }
        }
        return found;
    }

    private void compare() {
        compareRequest(NEW_KEY);
        for (int list = 0; list < lengths.length; list++) {
            for (int place = 0; place < lengths[list]; place++) {
                compareRequest(keyOf(list, place));
            }
            if (lengths[list] > 0) {
                compareRemove(keyOf(list, 0));
            }
        }
        for (int next = 1; next <= capacity + 1; next++) {
            compareCapacity(next);
        }
    }

    /** Place 0 is the newest one's. */
    private static int keyOf(int list, int place) {
        return 100 * (list + 1) + 50 - 2 * place;
    }

    private void compareRequest(int key) {
        AdaptiveReplacementCache x = object();
        Model model = model();
        int evictions = x.evictions();
        CHECK.due(name() + ", victim", x.victim(), model.victim());
        CHECK.due(name() + ", request " + key, x.request(key), model.request(key));
        dueSame(", request " + key, x, model, evictions);
    }

    private void compareRemove(int key) {
        AdaptiveReplacementCache x = object();
        Model model = model();
        int evictions = x.evictions();
        CHECK.due(name() + ", remove " + key, x.remove(key), model.remove(key));
        dueSame(", remove " + key, x, model, evictions);
    }

    private void compareCapacity(int next) {
        AdaptiveReplacementCache x = object();
        Model model = model();
        int evictions = x.evictions();
        CHECK.due(name() + ", setCapacity " + next, x.setCapacity(next), model.setCapacity(next));
        dueSame(", setCapacity " + next, x, model, evictions);
        CHECK.due(name() + ", setCapacity " + next + ", capacity", x.capacity(), model.capacity);
    }

    private void dueSame(String call, AdaptiveReplacementCache x, Model model, int evictionsBefore) {
        CHECK.dueText(name() + call + ", lists", Shown.lists(x), model.lists());
        CHECK.due(name() + call + ", target", x.target(), model.target);
        CHECK.due(name() + call + ", evictions", x.evictions() - evictionsBefore, model.evictions);
        CHECK.due(name() + call + ", victim", x.victim(), model.victim());
    }

    private String name() {
        return "capacity " + capacity + ", target " + target + ", " + model().lists();
    }

    private AdaptiveReplacementCache object() {
        return Given.lists(capacity, target, model().lists());
    }

    private Model model() {
        Model model = new Model();
        model.capacity = capacity;
        model.target = target;
        for (int place = 0; place <= 2 * LARGEST; place++) {
            if (place < lengths[0]) {
                model.recent.addLast(keyOf(0, place));
            }
            if (place < lengths[1]) {
                model.frequent.addLast(keyOf(1, place));
            }
            if (place < lengths[2]) {
                model.recentGhosts.addLast(keyOf(2, place));
            }
            if (place < lengths[3]) {
                model.frequentGhosts.addLast(keyOf(3, place));
            }
        }
        return model;
    }
}
