/** Long runs of calls, the same ones each time, on an object and on the model: all that they show is the same. */
public final class ModelTest {
    private static final int CALLS = 512;
    private static final Check CHECK = new Check();

    private static long seed;

    public static void main(String[] args) {
        for (int run = 0; run < 840; run++) {
            seed = run * 7919L + 1;
            // Every tenth run shows everything after each call, the others now and then.
            compare(run, run % 10 == 0 ? 1 : 64);
        }
        CHECK.end();
    }

    private static int below(int bound) {
        seed = seed * 6364136223846793005L + 1442695040888963407L;
        return (int) ((seed >>> 33) % bound);
    }

    private static void compare(int run, int everyCalls) {
        AdaptiveReplacementCache x = new AdaptiveReplacementCache();
        Model model = new Model();
        int keys = new int[] {3, 6, 12, 25, 50, 100, 10000}[run % 7];
        int firstKey = run % 3 == 0 ? 10000 - keys : 0;
        int changes = new int[] {0, 2, 10, 25}[run / 7 % 4];
        int capacity = 1 + below(run % 2 == 0 ? 6 : 32);
        CHECK.due("setCapacity", x.setCapacity(capacity), model.setCapacity(capacity));
        int key = firstKey;
        for (int call = 0; call < CALLS; call++) {
            key = nextKey(key, firstKey, keys);
            String name = "run " + run + ", call " + call + " with " + key;
            CHECK.due(name + ", whereIs", x.whereIs(key), model.whereIs(key));
            if (below(100) < changes) {
                change(name, x, model, key);
            } else {
                CHECK.due(name + ", request", x.request(key), model.request(key));
            }
            CHECK.dueText(name + ", lists", Shown.lists(x), model.lists());
            CHECK.due(name + ", target", x.target(), model.target);
            CHECK.due(name + ", victim", x.victim(), model.victim());
            if (call % everyCalls == 0) {
                CHECK.dueText(name + ", all", Shown.all(x), model.all());
            }
        }
        CHECK.dueText("run " + run + ", at its end", Shown.all(x), model.all());
    }

    private static int nextKey(int key, int firstKey, int keys) {
        int kind = below(8);
        if (kind < 2 && key + 1 < firstKey + keys) {
            return key + 1;
        }
        if (kind < 5) {
            return firstKey + below(Math.min(keys, 10));
        }
        return firstKey + below(keys);
    }

    private static void change(String name, AdaptiveReplacementCache x, Model model, int key) {
        int kind = below(20);
        if (kind < 8) {
            CHECK.due(name + ", remove", x.remove(key), model.remove(key));
        } else if (kind < 14) {
            int capacity = 1 + below(below(2) == 0 ? 32 : 5);
            CHECK.due(name + ", setCapacity " + capacity, x.setCapacity(capacity), model.setCapacity(capacity));
        } else if (kind < 19) {
            int length = below(3) == 0 ? 0 : 2 + below(below(2) == 0 ? 3 : 19);
            CHECK.due(name + ", setScanLength " + length, x.setScanLength(length), model.setScanLength(length));
        } else {
            CHECK.due(name + ", clear", x.clear(), model.clear());
        }
    }
}
