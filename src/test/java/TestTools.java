/** What the tests share: the constants, objects that got requests, and checks of a whole object. */
abstract class TestTools {
    static final Class<IllegalArgumentException> BAD_ARGUMENT = IllegalArgumentException.class;
    static final Class<IndexOutOfBoundsException> BAD_PLACE = IndexOutOfBoundsException.class;
    static final int[] NO_KEYS = {-1, 10000, Integer.MIN_VALUE, Integer.MAX_VALUE};
    static final int[] NO_CAPACITIES = {0, 33, -1, Integer.MIN_VALUE, Integer.MAX_VALUE};
    static final int[] NO_SCAN_LENGTHS = {1, 21, -1, -2, Integer.MIN_VALUE, Integer.MAX_VALUE};
    static final int NONE = -1;
    static final int NOWHERE = 0;
    static final int RECENT = 1;
    static final int FREQUENT = 2;
    static final int RECENT_GHOST = 3;
    static final int FREQUENT_GHOST = 4;
    static final int MISS = 5;
    static final int BYPASSED = 6;
    static final String EMPTY = "recent | frequent | recent ghosts | frequent ghosts";

    static final Check CHECK = new Check();

    /** Makes the tests one by one; one that a call ends by an exception that is not due does not end the others. */
    static void makeEach(Check.Call... tests) {
        for (Check.Call test : tests) {
            try {
                test.make();
            } catch (RuntimeException thrown) {
                CHECK.fault("a call threw " + thrown);
            }
        }
        CHECK.end();
    }

    static AdaptiveReplacementCache made(int capacity, int... keys) {
        AdaptiveReplacementCache x = new AdaptiveReplacementCache();
        x.setCapacity(capacity);
        requestAll(x, keys);
        return x;
    }

    static void requestAll(AdaptiveReplacementCache x, int... keys) {
        for (int key : keys) {
            x.request(key);
        }
    }

    static void dueLists(AdaptiveReplacementCache x, String lists) {
        CHECK.dueText("the lists", Shown.lists(x), lists);
    }

    static void dueRequest(AdaptiveReplacementCache x, int key, int outcome, String lists) {
        CHECK.due("request(" + key + ")", x.request(key), outcome);
        CHECK.dueText("the lists after request(" + key + ")", Shown.lists(x), lists);
    }

    /** The call throws, and the object shows the same before and after it. */
    static void dueNoChange(AdaptiveReplacementCache x, String name,
            Class<? extends RuntimeException> want, Check.Call call) {
        String before = Shown.all(x);
        CHECK.dueThrow(name, want, call);
        CHECK.dueText("the object after " + name, Shown.all(x), before);
    }
}
