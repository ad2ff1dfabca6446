/** The boundary cases that the document names for lists, evictions and requests: a test for each sentence. */
public final class RequestBoundaryTest extends TestTools {
    public static void main(String[] args) {
        makeEach(
                RequestBoundaryTest::keysOfRequest,
                RequestBoundaryTest::keyInAtMostOneList,
                RequestBoundaryTest::newestAndOldest,
                RequestBoundaryTest::full,
                RequestBoundaryTest::firstCapacity,
                RequestBoundaryTest::firstTarget,
                RequestBoundaryTest::longerThanTarget,
                RequestBoundaryTest::targetAtThatMoment,
                RequestBoundaryTest::asLongAsTarget,
                RequestBoundaryTest::asLongAsTargetButEmpty,
                RequestBoundaryTest::otherCases,
                RequestBoundaryTest::hitOnRecent,
                RequestBoundaryTest::hitOnFrequent,
                RequestBoundaryTest::targetRaised,
                RequestBoundaryTest::targetNotAboveCapacity,
                RequestBoundaryTest::recentGhostInFullCache,
                RequestBoundaryTest::recentGhostJoins,
                RequestBoundaryTest::targetLowered,
                RequestBoundaryTest::targetNotBelowZero,
                RequestBoundaryTest::frequentGhostInFullCache,
                RequestBoundaryTest::frequentGhostJoins,
                RequestBoundaryTest::recentPageDropped,
                RequestBoundaryTest::recentGhostDropped,
                RequestBoundaryTest::recentGhostDroppedInFullCache,
                RequestBoundaryTest::frequentGhostDropped,
                RequestBoundaryTest::shorterInFullCache,
                RequestBoundaryTest::joinsInEitherCase,
                RequestBoundaryTest::lastOfManyCalls);
    }

    private static void dueTarget(AdaptiveReplacementCache x, int target) {
        CHECK.due("target()", x.target(), target);
    }

    /** The request has this outcome, leaves these lists, and evicts so many pages. */
    private static void dueEvictions(AdaptiveReplacementCache x, int key, int outcome, String lists, int evictions) {
        int before = x.evictions();
        dueRequest(x, key, outcome, lists);
        CHECK.due("evictions by request(" + key + ")", x.evictions() - before, evictions);
    }

    private static void keysOfRequest() {
        CHECK.words("Keys are numbers from 0 to 9999.");
        AdaptiveReplacementCache x = made(2);
        dueRequest(x, 0, MISS, "recent 0 | frequent | recent ghosts | frequent ghosts");
        dueRequest(x, 9999, MISS, "recent 9999 0 | frequent | recent ghosts | frequent ghosts");
        dueRequest(x, 0, RECENT, "recent 9999 | frequent 0 | recent ghosts | frequent ghosts");
        dueRequest(x, 1, MISS, "recent 1 | frequent 0 | recent ghosts 9999 | frequent ghosts");
        dueRequest(x, 9999, RECENT_GHOST, "recent 1 | frequent 9999 | recent ghosts | frequent ghosts 0");
        dueRequest(x, 0, FREQUENT_GHOST, "recent | frequent 0 9999 | recent ghosts 1 | frequent ghosts");
        for (int key : NO_KEYS) {
            dueNoChange(x, "request(" + key + ")", BAD_ARGUMENT, () -> x.request(key));
        }
    }

    private static void keyInAtMostOneList() {
        CHECK.words("Each key is in at most one of four lists");
        AdaptiveReplacementCache x = made(4);
        for (int step = 0; step < 200; step++) {
            x.request(step * step % 11);
            String[] lists = Shown.lists(x).split("\\|");
            for (int key = 0; key < 11; key++) {
                int found = NOWHERE;
                int times = 0;
                for (int list = 0; list < lists.length; list++) {
                    for (int one : Given.oldestFirst(lists[list])) {
                        if (one == key) {
                            found = list + 1;
                            times++;
                        }
                    }
                }
                CHECK.due("lists with " + key + " at step " + step, Math.max(1, times), 1);
                CHECK.due("whereIs(" + key + ") at step " + step, x.whereIs(key), found);
            }
        }
    }

    private static void newestAndOldest() {
        CHECK.words("a key joins it as its newest one, and its oldest one is the one that joined it the longest time ago");
        AdaptiveReplacementCache x = made(3, 5, 9, 7);
        dueLists(x, "recent 7 9 5 | frequent | recent ghosts | frequent ghosts");
        // A key that left and joined again is the newest one, not the oldest.
        x.remove(5);
        x.request(5);
        dueLists(x, "recent 5 7 9 | frequent | recent ghosts | frequent ghosts");
        requestAll(x, 7, 5, 9);
        dueLists(x, "recent | frequent 9 5 7 | recent ghosts | frequent ghosts");
        requestAll(x, 7, 20, 22);
        dueLists(x, "recent 22 | frequent 7 9 | recent ghosts 20 | frequent ghosts 5");
        requestAll(x, 22, 24);
        dueLists(x, "recent 24 | frequent 22 7 | recent ghosts 20 | frequent ghosts 9 5");
        // Six keys are twice the capacity: the frequent ghost that joined first goes.
        x.request(26);
        dueLists(x, "recent 26 | frequent 22 7 | recent ghosts 24 20 | frequent ghosts 9");
    }

    private static void full() {
        CHECK.words("The cache is full if these are as many as the capacity.");
        for (int capacity = 1; capacity <= 32; capacity++) {
            AdaptiveReplacementCache x = made(capacity);
            for (int page = 1; page <= capacity; page++) {
                requestAll(x, 2 * page, 2 * page);
                CHECK.due("evictions() with " + page + " of " + capacity + " pages", x.evictions(), 0);
            }
            x.request(1);
            CHECK.due("evictions() with a page more than " + capacity, x.evictions(), 1);
            CHECK.due("size()", x.size(), capacity);
            CHECK.due("whereIs(2)", x.whereIs(2), FREQUENT_GHOST);
        }
        // Pages of both lists count together, ghosts do not.
        AdaptiveReplacementCache both = Given.lists(4, 0, "recent 30 | frequent 20 10 | recent ghosts 40 | frequent ghosts 50");
        dueEvictions(both, 60, MISS, "recent 60 30 | frequent 20 10 | recent ghosts 40 | frequent ghosts 50", 0);
        dueEvictions(both, 70, MISS, "recent 70 60 | frequent 20 10 | recent ghosts 30 40 | frequent ghosts 50", 1);
    }

    private static void firstCapacity() {
        CHECK.words("The capacity is 1 to 32, at first 8");
        AdaptiveReplacementCache x = new AdaptiveReplacementCache();
        requestAll(x, 1, 1, 3, 5, 7, 9, 11, 13);
        dueEvictions(x, 15, MISS, "recent 15 13 11 9 7 5 3 | frequent 1 | recent ghosts | frequent ghosts", 0);
        dueEvictions(x, 17, MISS, "recent 17 15 13 11 9 7 5 | frequent 1 | recent ghosts 3 | frequent ghosts", 1);
    }

    private static void firstTarget() {
        CHECK.words("the target is 0 at first");
        AdaptiveReplacementCache x = new AdaptiveReplacementCache();
        dueTarget(x, 0);
        requestAll(x, 1, 1, 3, 3, 5, 5, 7, 7, 9, 9, 11, 11, 13, 13, 15);
        dueRequest(x, 17, MISS, "recent 17 | frequent 13 11 9 7 5 3 1 | recent ghosts 15 | frequent ghosts");
        dueTarget(x, 0);
    }

    private static void longerThanTarget() {
        CHECK.words("the recent list is longer than the target (as it is at that moment), whatever the request is for");
        dueRequest(Given.lists(4, 1, "recent 20 10 | frequent 2 1 | recent ghosts 6 | frequent ghosts 7"),
                30, MISS, "recent 30 20 | frequent 2 1 | recent ghosts 10 6 | frequent ghosts 7");
        dueRequest(Given.lists(4, 0, "recent 20 10 | frequent 2 1 | recent ghosts 6 5 | frequent ghosts 7"),
                5, RECENT_GHOST, "recent 20 | frequent 5 2 1 | recent ghosts 10 6 | frequent ghosts 7");
        dueRequest(Given.lists(4, 2, "recent 20 10 | frequent 2 1 | recent ghosts 6 | frequent ghosts 7 5"),
                5, FREQUENT_GHOST, "recent 20 | frequent 5 2 1 | recent ghosts 10 6 | frequent ghosts 7");
        // Without frequent pages.
        dueRequest(Given.lists(3, 3, "recent 30 20 10 | frequent | recent ghosts | frequent ghosts 7"),
                7, FREQUENT_GHOST, "recent 30 20 | frequent 7 | recent ghosts 10 | frequent ghosts");
        // Only just, with a target of 0.
        dueRequest(Given.lists(2, 0, "recent 10 | frequent 1 | recent ghosts | frequent ghosts"),
                20, MISS, "recent 20 | frequent 1 | recent ghosts 10 | frequent ghosts");
    }

    private static void targetAtThatMoment() {
        CHECK.words("(as it is at that moment)");
        // Raised from 1 to 2: the recent list is not longer than the target any more.
        dueRequest(Given.lists(4, 1, "recent 20 10 | frequent 2 1 | recent ghosts 5 | frequent ghosts"),
                5, RECENT_GHOST, "recent 20 10 | frequent 5 2 | recent ghosts | frequent ghosts 1");
        // Lowered by 2/1 from 3 to 1: the recent list is longer than the target now.
        dueRequest(Given.lists(4, 3, "recent 20 10 | frequent 2 1 | recent ghosts 6 5 | frequent ghosts 7"),
                7, FREQUENT_GHOST, "recent 20 | frequent 7 2 1 | recent ghosts 10 6 5 | frequent ghosts");
    }

    private static void asLongAsTarget() {
        CHECK.words("the recent list is as long as the target and not empty, and the request is for a key among the frequent ghosts");
        dueRequest(Given.lists(4, 3, "recent 20 10 | frequent 2 1 | recent ghosts 6 | frequent ghosts 7 5"),
                7, FREQUENT_GHOST, "recent 20 | frequent 7 2 1 | recent ghosts 10 6 | frequent ghosts 5");
        dueRequest(Given.lists(2, 2, "recent 10 | frequent 1 | recent ghosts | frequent ghosts 5"),
                5, FREQUENT_GHOST, "recent | frequent 5 1 | recent ghosts 10 | frequent ghosts");
        // Not for a key that is in no list, and not for a recent ghost.
        dueRequest(Given.lists(4, 2, "recent 20 10 | frequent 2 1 | recent ghosts 6 | frequent ghosts 7"),
                30, MISS, "recent 30 20 10 | frequent 2 | recent ghosts 6 | frequent ghosts 1 7");
        dueRequest(Given.lists(4, 1, "recent 20 10 | frequent 2 1 | recent ghosts 6 5 | frequent ghosts 7"),
                6, RECENT_GHOST, "recent 20 10 | frequent 6 2 | recent ghosts 5 | frequent ghosts 1 7");
    }

    private static void asLongAsTargetButEmpty() {
        CHECK.words("as long as the target and not empty");
        AdaptiveReplacementCache lowered = Given.lists(2, 1, "recent | frequent 2 1 | recent ghosts | frequent ghosts 5");
        dueEvictions(lowered, 5, FREQUENT_GHOST, "recent | frequent 5 2 | recent ghosts | frequent ghosts 1", 1);
        AdaptiveReplacementCache zero = Given.lists(2, 0, "recent | frequent 2 1 | recent ghosts 7 | frequent ghosts 5");
        dueEvictions(zero, 5, FREQUENT_GHOST, "recent | frequent 5 2 | recent ghosts 7 | frequent ghosts 1", 1);
        AdaptiveReplacementCache one = Given.lists(1, 1, "recent | frequent 1 | recent ghosts | frequent ghosts 5");
        dueEvictions(one, 5, FREQUENT_GHOST, "recent | frequent 5 | recent ghosts | frequent ghosts 1", 1);
    }

    private static void otherCases() {
        CHECK.words("In all other cases the oldest key of the frequent list leaves it and joins the frequent ghosts.");
        // The recent list is shorter than the target by one.
        dueRequest(Given.lists(4, 2, "recent 10 | frequent 3 2 1 | recent ghosts 6 | frequent ghosts 7"),
                20, MISS, "recent 20 10 | frequent 3 2 | recent ghosts 6 | frequent ghosts 1 7");
        dueRequest(Given.lists(4, 1, "recent 10 | frequent 3 2 1 | recent ghosts 6 | frequent ghosts 7"),
                6, RECENT_GHOST, "recent 10 | frequent 6 3 2 | recent ghosts | frequent ghosts 1 7");
        dueRequest(Given.lists(4, 3, "recent 10 | frequent 3 2 1 | recent ghosts 6 | frequent ghosts 8 7"),
                8, FREQUENT_GHOST, "recent 10 | frequent 8 3 2 | recent ghosts 6 | frequent ghosts 1 7");
        // It is empty, and as long as the target.
        dueRequest(Given.lists(2, 0, "recent | frequent 2 1 | recent ghosts 6 | frequent ghosts"),
                20, MISS, "recent 20 | frequent 2 | recent ghosts 6 | frequent ghosts 1");
        // It is empty, and shorter than the target.
        dueRequest(Given.lists(2, 0, "recent | frequent 2 1 | recent ghosts 6 | frequent ghosts"),
                6, RECENT_GHOST, "recent | frequent 6 2 | recent ghosts | frequent ghosts 1");
    }

    private static void hitOnRecent() {
        CHECK.words("recent or frequent: the key leaves its list and joins the frequent list.");
        String lists = "recent 30 20 10 | frequent 2 1 | recent ghosts 6 | frequent ghosts 7";
        dueEvictions(Given.lists(5, 2, lists), 30, RECENT,
                "recent 20 10 | frequent 30 2 1 | recent ghosts 6 | frequent ghosts 7", 0);
        dueEvictions(Given.lists(5, 2, lists), 20, RECENT,
                "recent 30 10 | frequent 20 2 1 | recent ghosts 6 | frequent ghosts 7", 0);
        AdaptiveReplacementCache oldest = Given.lists(5, 2, lists);
        dueEvictions(oldest, 10, RECENT, "recent 30 20 | frequent 10 2 1 | recent ghosts 6 | frequent ghosts 7", 0);
        dueTarget(oldest, 2);
        // The only key there is, in a cache of one page.
        dueEvictions(made(1, 4), 4, RECENT, "recent | frequent 4 | recent ghosts | frequent ghosts", 0);
    }

    private static void hitOnFrequent() {
        CHECK.words("(It joins that as the newest one also if it was in it.)");
        String lists = "recent 10 | frequent 3 2 1 | recent ghosts 6 | frequent ghosts 7";
        dueEvictions(Given.lists(4, 2, lists), 3, FREQUENT, lists, 0);
        dueEvictions(Given.lists(4, 2, lists), 2, FREQUENT,
                "recent 10 | frequent 2 3 1 | recent ghosts 6 | frequent ghosts 7", 0);
        AdaptiveReplacementCache oldest = Given.lists(4, 2, lists);
        dueEvictions(oldest, 1, FREQUENT, "recent 10 | frequent 1 3 2 | recent ghosts 6 | frequent ghosts 7", 0);
        dueTarget(oldest, 2);
        dueEvictions(made(1, 4, 4), 4, FREQUENT, "recent | frequent 4 | recent ghosts | frequent ghosts", 0);
    }

    /** A cache of capacity 8 with so many ghosts of each kind, the recent ones from 100, the frequent ones from 200. */
    private static AdaptiveReplacementCache withGhosts(int target, int recentGhosts, int frequentGhosts) {
        return Given.lists(8, target, "recent | frequent | recent ghosts" + keysDownTo(100, recentGhosts)
                + " | frequent ghosts" + keysDownTo(200, frequentGhosts));
    }

    private static String keysDownTo(int oldest, int count) {
        StringBuilder text = new StringBuilder();
        for (int key = oldest + count - 1; key >= oldest; key--) {
            text.append(' ').append(key);
        }
        return text.toString();
    }

    private static void targetRaised() {
        CHECK.words("the target is raised by the number of frequent ghosts divided by the number of recent ghosts"
                + " (the requested key counted), rounded down, but by 1 at least");
        // Recent ghosts, frequent ghosts, and by how much the target is raised.
        int[][] cases = {{1, 0, 1}, {3, 0, 1}, {2, 1, 1}, {1, 1, 1}, {2, 2, 1}, {2, 3, 1}, {3, 5, 1}, {3, 6, 2},
            {1, 2, 2}, {2, 4, 2}, {2, 5, 2}, {3, 8, 2}, {3, 9, 3}, {1, 5, 5}, {1, 7, 7}, {8, 8, 1}, {4, 8, 2}};
        for (int[] one : cases) {
            AdaptiveReplacementCache x = withGhosts(0, one[0], one[1]);
            CHECK.due("request(100)", x.request(100), RECENT_GHOST);
            CHECK.due("target(), raised by " + one[1] + "/" + one[0], x.target(), one[2]);
        }
        // The ghosts are counted before the eviction: with the one that is evicted it were 2/1, or 1/2.
        AdaptiveReplacementCache frequent = Given.lists(2, 0, "recent | frequent 2 1 | recent ghosts 6 | frequent ghosts 7");
        dueRequest(frequent, 6, RECENT_GHOST, "recent | frequent 6 2 | recent ghosts | frequent ghosts 1 7");
        dueTarget(frequent, 1);
        AdaptiveReplacementCache recent = Given.lists(5, 0,
                "recent 40 30 20 10 | frequent 1 | recent ghosts 6 | frequent ghosts 9 8");
        dueRequest(recent, 6, RECENT_GHOST, "recent 40 30 20 | frequent 6 1 | recent ghosts 10 | frequent ghosts 9 8");
        dueTarget(recent, 2);
    }

    private static void targetNotAboveCapacity() {
        CHECK.words("and not above the capacity");
        // Target, recent ghosts, frequent ghosts, and the target after the request.
        int[][] cases = {{6, 1, 2, 8}, {7, 1, 2, 8}, {7, 1, 0, 8}, {8, 1, 0, 8}, {8, 1, 7, 8}, {2, 1, 7, 8}, {5, 1, 2, 7}};
        for (int[] one : cases) {
            AdaptiveReplacementCache x = withGhosts(one[0], one[1], one[2]);
            CHECK.due("request(100)", x.request(100), RECENT_GHOST);
            CHECK.due("target(), " + one[0] + " raised by " + one[2] + "/" + one[1], x.target(), one[3]);
        }
        AdaptiveReplacementCache one = Given.lists(1, 1, "recent | frequent 1 | recent ghosts 6 | frequent ghosts");
        dueRequest(one, 6, RECENT_GHOST, "recent | frequent 6 | recent ghosts | frequent ghosts 1");
        dueTarget(one, 1);
    }

    private static void recentGhostInFullCache() {
        CHECK.words("and not above the capacity. Then, if the cache is full, a page is evicted.");
        AdaptiveReplacementCache x = Given.lists(4, 0, "recent 10 | frequent 2 1 | recent ghosts 7 6 | frequent ghosts 9");
        dueEvictions(x, 6, RECENT_GHOST, "recent 10 | frequent 6 2 1 | recent ghosts 7 | frequent ghosts 9", 0);
        dueEvictions(x, 7, RECENT_GHOST, "recent 10 | frequent 7 6 2 | recent ghosts | frequent ghosts 1 9", 1);
        dueEvictions(Given.lists(1, 0, "recent | frequent | recent ghosts 6 | frequent ghosts"), 6, RECENT_GHOST,
                "recent | frequent 6 | recent ghosts | frequent ghosts", 0);
    }

    private static void recentGhostJoins() {
        CHECK.words("recent ghosts: .. Then the key leaves the ghosts and joins the frequent list.");
        String lists = "recent 10 | frequent 2 1 | recent ghosts 8 7 6 | frequent ghosts 9";
        dueRequest(Given.lists(5, 0, lists), 8, RECENT_GHOST,
                "recent 10 | frequent 8 2 1 | recent ghosts 7 6 | frequent ghosts 9");
        dueRequest(Given.lists(5, 0, lists), 7, RECENT_GHOST,
                "recent 10 | frequent 7 2 1 | recent ghosts 8 6 | frequent ghosts 9");
        dueRequest(Given.lists(5, 0, lists), 6, RECENT_GHOST,
                "recent 10 | frequent 6 2 1 | recent ghosts 8 7 | frequent ghosts 9");
    }

    private static void targetLowered() {
        CHECK.words("the target is lowered by the number of recent ghosts divided by the number of frequent ghosts"
                + " (the requested key counted), rounded down, but by 1 at least");
        // Frequent ghosts, recent ghosts, and by how much the target is lowered.
        int[][] cases = {{1, 0, 1}, {3, 0, 1}, {2, 1, 1}, {1, 1, 1}, {2, 2, 1}, {2, 3, 1}, {3, 5, 1}, {3, 6, 2},
            {1, 2, 2}, {2, 4, 2}, {2, 5, 2}, {3, 8, 2}, {1, 5, 5}, {1, 7, 7}, {8, 8, 1}, {4, 8, 2}};
        for (int[] one : cases) {
            AdaptiveReplacementCache x = withGhosts(8, one[1], one[0]);
            CHECK.due("request(200)", x.request(200), FREQUENT_GHOST);
            CHECK.due("target(), lowered by " + one[1] + "/" + one[0], x.target(), 8 - one[2]);
        }
        // The ghosts are counted before the eviction: with the one that is evicted it were 2/1, or 2/2.
        AdaptiveReplacementCache recent = Given.lists(4, 4, "recent 30 20 10 | frequent 1 | recent ghosts 6 | frequent ghosts 7");
        dueRequest(recent, 7, FREQUENT_GHOST, "recent 30 20 | frequent 7 1 | recent ghosts 10 6 | frequent ghosts");
        dueTarget(recent, 3);
        AdaptiveReplacementCache frequent = Given.lists(4, 4,
                "recent 10 | frequent 3 2 1 | recent ghosts 8 6 | frequent ghosts 7");
        dueRequest(frequent, 7, FREQUENT_GHOST, "recent 10 | frequent 7 3 2 | recent ghosts 8 6 | frequent ghosts 1");
        dueTarget(frequent, 2);
    }

    private static void targetNotBelowZero() {
        CHECK.words("and not below 0");
        // Target, frequent ghosts, recent ghosts, and the target after the request.
        int[][] cases = {{2, 1, 2, 0}, {1, 1, 2, 0}, {1, 1, 0, 0}, {0, 1, 0, 0}, {0, 1, 7, 0}, {6, 1, 7, 0}, {3, 1, 2, 1}};
        for (int[] one : cases) {
            AdaptiveReplacementCache x = withGhosts(one[0], one[2], one[1]);
            CHECK.due("request(200)", x.request(200), FREQUENT_GHOST);
            CHECK.due("target(), " + one[0] + " lowered by " + one[2] + "/" + one[1], x.target(), one[3]);
        }
    }

    private static void frequentGhostInFullCache() {
        CHECK.words("and not below 0. Then, if the cache is full, a page is evicted.");
        AdaptiveReplacementCache x = Given.lists(4, 0, "recent 10 | frequent 2 1 | recent ghosts 9 | frequent ghosts 7 6");
        dueEvictions(x, 6, FREQUENT_GHOST, "recent 10 | frequent 6 2 1 | recent ghosts 9 | frequent ghosts 7", 0);
        dueEvictions(x, 7, FREQUENT_GHOST, "recent | frequent 7 6 2 1 | recent ghosts 10 9 | frequent ghosts", 1);
        dueEvictions(Given.lists(1, 1, "recent | frequent | recent ghosts | frequent ghosts 6"), 6, FREQUENT_GHOST,
                "recent | frequent 6 | recent ghosts | frequent ghosts", 0);
    }

    private static void frequentGhostJoins() {
        CHECK.words("frequent ghosts: .. Then the key leaves the ghosts and joins the frequent list.");
        String lists = "recent 10 | frequent 2 1 | recent ghosts 9 | frequent ghosts 8 7 6";
        dueRequest(Given.lists(5, 0, lists), 8, FREQUENT_GHOST,
                "recent 10 | frequent 8 2 1 | recent ghosts 9 | frequent ghosts 7 6");
        dueRequest(Given.lists(5, 0, lists), 7, FREQUENT_GHOST,
                "recent 10 | frequent 7 2 1 | recent ghosts 9 | frequent ghosts 8 6");
        dueRequest(Given.lists(5, 0, lists), 6, FREQUENT_GHOST,
                "recent 10 | frequent 6 2 1 | recent ghosts 9 | frequent ghosts 8 7");
    }

    private static void recentPageDropped() {
        CHECK.words("if there are no recent ghosts, the oldest key of the recent list is dropped"
                + " (it becomes no ghost; this counts as an eviction)");
        // Whatever the target is.
        for (int target = 0; target <= 3; target++) {
            AdaptiveReplacementCache x = Given.lists(3, target, "recent 30 20 10 | frequent | recent ghosts | frequent ghosts 7");
            dueEvictions(x, 40, MISS, "recent 40 30 20 | frequent | recent ghosts | frequent ghosts 7", 1);
            CHECK.due("whereIs(10)", x.whereIs(10), NOWHERE);
            dueTarget(x, target);
            CHECK.due("request(10)", x.request(10), MISS);
        }
        // No frequent ghost is dropped, though all lists together have twice as many keys as the capacity.
        dueEvictions(Given.lists(2, 0, "recent 20 10 | frequent | recent ghosts | frequent ghosts 7 6"), 30, MISS,
                "recent 30 20 | frequent | recent ghosts | frequent ghosts 7 6", 1);
        dueEvictions(Given.lists(1, 0, "recent 10 | frequent | recent ghosts | frequent ghosts 7"), 30, MISS,
                "recent 30 | frequent | recent ghosts | frequent ghosts 7", 1);
        // With a recent page less, none is dropped.
        dueEvictions(made(3, 10, 20), 30, MISS, "recent 30 20 10 | frequent | recent ghosts | frequent ghosts", 0);
    }

    private static void recentGhostDropped() {
        CHECK.words("if recent list and recent ghosts together are as long as the capacity, then: ..,"
                + " otherwise the oldest recent ghost is dropped");
        // Not full: no page is evicted.
        dueEvictions(Given.lists(3, 0, "recent 10 | frequent 1 | recent ghosts 7 6 | frequent ghosts"), 20, MISS,
                "recent 20 10 | frequent 1 | recent ghosts 7 | frequent ghosts", 0);
        dueEvictions(Given.lists(3, 0, "recent 20 10 | frequent | recent ghosts 6 | frequent ghosts"), 30, MISS,
                "recent 30 20 10 | frequent | recent ghosts | frequent ghosts", 0);
        // No recent page at all.
        dueEvictions(Given.lists(3, 0, "recent | frequent 2 1 | recent ghosts 8 7 6 | frequent ghosts"), 20, MISS,
                "recent 20 | frequent 2 1 | recent ghosts 8 7 | frequent ghosts", 0);
        // No frequent ghost is dropped, though all lists together have twice as many keys as the capacity.
        dueEvictions(Given.lists(3, 0, "recent 10 | frequent 1 | recent ghosts 7 6 | frequent ghosts 9 8"), 20, MISS,
                "recent 20 10 | frequent 1 | recent ghosts 7 | frequent ghosts 9 8", 0);
        // Shorter by one: no recent ghost is dropped.
        dueEvictions(Given.lists(4, 0, "recent 10 | frequent 1 | recent ghosts 7 6 | frequent ghosts"), 20, MISS,
                "recent 20 10 | frequent 1 | recent ghosts 7 6 | frequent ghosts", 0);
    }

    private static void recentGhostDroppedInFullCache() {
        CHECK.words("otherwise the oldest recent ghost is dropped, and, if the cache is full, a page is evicted");
        dueEvictions(Given.lists(3, 0, "recent 10 | frequent 2 1 | recent ghosts 7 6 | frequent ghosts"), 20, MISS,
                "recent 20 | frequent 2 1 | recent ghosts 10 7 | frequent ghosts", 1);
        dueEvictions(Given.lists(3, 1, "recent 10 | frequent 2 1 | recent ghosts 7 6 | frequent ghosts"), 20, MISS,
                "recent 20 10 | frequent 2 | recent ghosts 7 | frequent ghosts 1", 1);
        // The only recent ghost.
        dueEvictions(Given.lists(3, 1, "recent 20 10 | frequent 1 | recent ghosts 6 | frequent ghosts"), 30, MISS,
                "recent 30 20 | frequent 1 | recent ghosts 10 | frequent ghosts", 1);
        dueEvictions(Given.lists(1, 0, "recent | frequent 1 | recent ghosts 6 | frequent ghosts"), 20, MISS,
                "recent 20 | frequent | recent ghosts | frequent ghosts 1", 1);
    }

    private static void frequentGhostDropped() {
        CHECK.words("if all four lists together have twice as many keys as the capacity, the oldest frequent ghost is dropped");
        dueEvictions(Given.lists(3, 0, "recent 10 | frequent 1 | recent ghosts 6 | frequent ghosts 9 8 7"), 20, MISS,
                "recent 20 10 | frequent 1 | recent ghosts 6 | frequent ghosts 9 8", 0);
        dueEvictions(Given.lists(3, 0, "recent 10 | frequent 2 1 | recent ghosts 6 | frequent ghosts 8 7"), 20, MISS,
                "recent 20 | frequent 2 1 | recent ghosts 10 6 | frequent ghosts 8", 1);
        // The page that is evicted becomes a ghost only after that: it is not the one that is dropped.
        dueEvictions(Given.lists(1, 0, "recent | frequent 1 | recent ghosts | frequent ghosts 7"), 20, MISS,
                "recent 20 | frequent | recent ghosts | frequent ghosts 1", 1);
        // A key less: none is dropped.
        dueEvictions(Given.lists(3, 0, "recent 10 | frequent 1 | recent ghosts 6 | frequent ghosts 8 7"), 20, MISS,
                "recent 20 10 | frequent 1 | recent ghosts 6 | frequent ghosts 8 7", 0);
        dueEvictions(Given.lists(3, 0, "recent 10 | frequent 2 1 | recent ghosts 6 | frequent ghosts 7"), 20, MISS,
                "recent 20 | frequent 2 1 | recent ghosts 10 6 | frequent ghosts 7", 1);
        // No pages and no recent ghosts.
        dueEvictions(Given.lists(2, 0, "recent | frequent | recent ghosts | frequent ghosts 9 8 7 6"), 20, MISS,
                "recent 20 | frequent | recent ghosts | frequent ghosts 9 8 7", 0);
    }

    private static void shorterInFullCache() {
        CHECK.words("the oldest frequent ghost is dropped; and, if the cache is full, a page is evicted");
        // Full, with a ghost dropped and without.
        dueEvictions(Given.lists(2, 1, "recent 10 | frequent 1 | recent ghosts | frequent ghosts 7 6"), 20, MISS,
                "recent 20 10 | frequent | recent ghosts | frequent ghosts 1 7", 1);
        dueEvictions(Given.lists(2, 1, "recent 10 | frequent 1 | recent ghosts | frequent ghosts 7"), 20, MISS,
                "recent 20 10 | frequent | recent ghosts | frequent ghosts 1 7", 1);
        // One page less.
        dueEvictions(Given.lists(2, 1, "recent | frequent 1 | recent ghosts | frequent ghosts 7"), 20, MISS,
                "recent 20 | frequent 1 | recent ghosts | frequent ghosts 7", 0);
        dueEvictions(made(1), 20, MISS, "recent 20 | frequent | recent ghosts | frequent ghosts", 0);
    }

    private static void joinsInEitherCase() {
        CHECK.words("In either case the key then joins the recent list.");
        AdaptiveReplacementCache dropped = made(2, 10, 20);
        CHECK.due("request(5)", dropped.request(5), MISS);
        CHECK.due("recentAt(0)", dropped.recentAt(0), 5);
        AdaptiveReplacementCache ghost = Given.lists(2, 0, "recent 10 | frequent 1 | recent ghosts 6 | frequent ghosts");
        CHECK.due("request(5)", ghost.request(5), MISS);
        CHECK.due("recentAt(0)", ghost.recentAt(0), 5);
        AdaptiveReplacementCache shorter = Given.lists(2, 0, "recent 10 | frequent | recent ghosts | frequent ghosts");
        CHECK.due("request(5)", shorter.request(5), MISS);
        CHECK.due("recentAt(0)", shorter.recentAt(0), 5);
        CHECK.due("recentAt(1)", shorter.recentAt(1), 10);
    }

    private static void lastOfManyCalls() {
        CHECK.words("An object is used for at most 512 calls after it has been made");
        AdaptiveReplacementCache run = new AdaptiveReplacementCache();
        AdaptiveReplacementCache evictions = new AdaptiveReplacementCache();
        AdaptiveReplacementCache hits = new AdaptiveReplacementCache();
        for (int call = 1; call <= 511; call++) {
            run.request(1000 + call);
            evictions.request(1000 + 2 * call);
            CHECK.due("request(7), call " + call, hits.request(7), call == 1 ? MISS : call == 2 ? RECENT : FREQUENT);
        }
        CHECK.due("run(), the 512th call", run.run(), 511);
        CHECK.due("evictions(), the 512th call", evictions.evictions(), 503);
        CHECK.due("hits(), the 512th call", hits.hits(), 510);
    }
}
