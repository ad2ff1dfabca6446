/** The boundary cases of the calls that change or show the lists (promises 1, 3 to 6, 9 to 20): a test for each sentence. */
public final class CallBoundaryTest extends TestTools {
    private static final String ALL_LISTS =
            "recent 30 20 10 | frequent 3 2 1 | recent ghosts 60 50 40 | frequent ghosts 90 80 70";

    public static void main(String[] args) {
        makeEach(
                CallBoundaryTest::emptyCache,
                CallBoundaryTest::removedKey,
                CallBoundaryTest::removedKeyIsNoGhost,
                CallBoundaryTest::nothingElseChanges,
                CallBoundaryTest::keysOfRemove,
                CallBoundaryTest::clearedLists,
                CallBoundaryTest::whatClearKeeps,
                CallBoundaryTest::pagesCleared,
                CallBoundaryTest::targetAboveNewCapacity,
                CallBoundaryTest::morePagesThanCapacity,
                CallBoundaryTest::evictedAsForNoList,
                CallBoundaryTest::recentGhostsAboveCapacity,
                CallBoundaryTest::frequentGhostsAboveTwice,
                CallBoundaryTest::otherwiseNoChangeOfLists,
                CallBoundaryTest::howManyWereEvicted,
                CallBoundaryTest::capacities,
                CallBoundaryTest::targetFromZeroToCapacity,
                CallBoundaryTest::sizes,
                CallBoundaryTest::keysOfWhereIs,
                CallBoundaryTest::listsOfWhereIs,
                CallBoundaryTest::victimOfCacheNotFull,
                CallBoundaryTest::victimOfFullCache,
                CallBoundaryTest::victimThatIsDropped,
                CallBoundaryTest::victimWhileGhostsAreDropped,
                CallBoundaryTest::victimWithoutScan,
                CallBoundaryTest::recentLength,
                CallBoundaryTest::frequentLength,
                CallBoundaryTest::recentGhostsLength,
                CallBoundaryTest::frequentGhostsLength,
                CallBoundaryTest::recentPlaces,
                CallBoundaryTest::frequentPlaces,
                CallBoundaryTest::recentGhostPlaces,
                CallBoundaryTest::frequentGhostPlaces,
                CallBoundaryTest::noSuchPlaces);
    }

    private static AdaptiveReplacementCache allLists() {
        return Given.lists(6, 2, ALL_LISTS);
    }

    private static void emptyCache() {
        CHECK.words("Creates an empty cache.");
        AdaptiveReplacementCache x = new AdaptiveReplacementCache();
        dueLists(x, EMPTY);
        CHECK.due("size()", x.size(), 0);
        CHECK.due("capacity()", x.capacity(), 8);
        CHECK.due("target()", x.target(), 0);
        CHECK.due("run()", x.run(), 0);
        CHECK.due("victim()", x.victim(), NONE);
        CHECK.due("clear()", x.clear(), 0);
        CHECK.due("remove(0)", x.remove(0), NOWHERE);
        CHECK.dueText("the counters", Shown.counters(x), "requests 0 hits 0 ghost hits 0 bypassed 0 evictions 0");
        // Another object in use does not matter.
        allLists().request(30);
        dueLists(new AdaptiveReplacementCache(), EMPTY);
    }

    private static void dueRemove(int key, int where, String lists) {
        AdaptiveReplacementCache x = allLists();
        CHECK.due("remove(" + key + ")", x.remove(key), where);
        CHECK.dueText("the lists after remove(" + key + ")", Shown.lists(x), lists);
        CHECK.due("remove(" + key + ") again", x.remove(key), NOWHERE);
    }

    private static void removedKey() {
        CHECK.words("Removes a key from the list in which it is.");
        // The newest, a middle and the oldest key of each list.
        int[][] lists = {{30, 20, 10}, {3, 2, 1}, {60, 50, 40}, {90, 80, 70}};
        for (int list = 0; list < lists.length; list++) {
            for (int key : lists[list]) {
                dueRemove(key, list + 1, ALL_LISTS.replaceFirst(" " + key + "\\b", ""));
            }
        }
        dueRemove(0, NOWHERE, ALL_LISTS);
        dueRemove(9999, NOWHERE, ALL_LISTS);
        // The only key of a list.
        AdaptiveReplacementCache x = Given.lists(2, 1, "recent 10 | frequent 1 | recent ghosts 40 | frequent ghosts 70");
        CHECK.due("remove(10)", x.remove(10), RECENT);
        CHECK.due("remove(1)", x.remove(1), FREQUENT);
        CHECK.due("remove(40)", x.remove(40), RECENT_GHOST);
        CHECK.due("remove(70)", x.remove(70), FREQUENT_GHOST);
        dueLists(x, EMPTY);
    }

    private static void removedKeyIsNoGhost() {
        CHECK.words("It becomes no ghost");
        for (int key : new int[] {30, 3, 60, 90}) {
            AdaptiveReplacementCache x = allLists();
            x.remove(key);
            CHECK.due("whereIs(" + key + ")", x.whereIs(key), NOWHERE);
            CHECK.due("request(" + key + ")", x.request(key), MISS);
        }
    }

    private static void nothingElseChanges() {
        CHECK.words("and nothing else changes");
        for (int key : new int[] {30, 3, 60, 90, 7}) {
            AdaptiveReplacementCache x = allLists();
            x.setScanLength(9);
            requestAll(x, 1);
            String counters = Shown.counters(x);
            int run = x.run();
            String would = wouldBe(x);
            x.remove(key);
            CHECK.dueText("the counters", Shown.counters(x), counters);
            CHECK.due("target()", x.target(), 2);
            CHECK.due("run()", x.run(), run);
            CHECK.due("capacity()", x.capacity(), 6);
            CHECK.dueText("hitsIf and leastRecentHitsIf", wouldBe(x), would);
            x.request(2);
            CHECK.due("run() after request(2)", x.run(), run + 1);
            CHECK.due("setScanLength(0)", x.setScanLength(0), 9);
        }
    }

    private static String wouldBe(AdaptiveReplacementCache x) {
        StringBuilder text = new StringBuilder();
        for (int capacity = 1; capacity <= 32; capacity++) {
            text.append(' ').append(x.hitsIf(capacity)).append('/').append(x.leastRecentHitsIf(capacity));
        }
        return text.toString();
    }

    private static void keysOfRemove() {
        CHECK.words("remove throws IllegalArgumentException if key is out of range");
        AdaptiveReplacementCache x = made(3, 0, 9999);
        for (int key : NO_KEYS) {
            dueNoChange(x, "remove(" + key + ")", BAD_ARGUMENT, () -> x.remove(key));
        }
        CHECK.due("remove(0)", x.remove(0), RECENT);
        CHECK.due("remove(9999)", x.remove(9999), RECENT);
    }

    private static void clearedLists() {
        CHECK.words("Empties all four lists; the target becomes 0.");
        AdaptiveReplacementCache x = allLists();
        x.clear();
        dueLists(x, EMPTY);
        CHECK.due("target()", x.target(), 0);
        for (int key : new int[] {30, 3, 60, 90}) {
            CHECK.due("whereIs(" + key + ")", x.whereIs(key), NOWHERE);
        }
        for (int key : new int[] {30, 3, 60, 90}) {
            CHECK.due("request(" + key + ")", x.request(key), MISS);
        }
        dueLists(x, "recent 90 60 3 30 | frequent | recent ghosts | frequent ghosts");
    }

    private static void whatClearKeeps() {
        CHECK.words("Capacity, scan length, run, log and counters stay.");
        AdaptiveReplacementCache x = allLists();
        requestAll(x, 1, 2, 3);
        x.setScanLength(4);
        String counters = Shown.counters(x);
        String would = wouldBe(x);
        x.clear();
        CHECK.due("capacity()", x.capacity(), 6);
        CHECK.due("run()", x.run(), 3);
        CHECK.dueText("the counters", Shown.counters(x), counters);
        CHECK.dueText("hitsIf and leastRecentHitsIf", wouldBe(x), would);
        CHECK.due("request(4) with run 4", x.request(4), BYPASSED);
        CHECK.due("run()", x.run(), 4);
        CHECK.due("setScanLength(0)", x.setScanLength(0), 4);
    }

    private static void pagesCleared() {
        CHECK.words("Returns how many pages were in the cache.");
        AdaptiveReplacementCache x = allLists();
        CHECK.due("clear()", x.clear(), 6);
        CHECK.due("clear() again", x.clear(), 0);
        CHECK.due("clear() with recent pages alone", made(4, 1, 2, 3).clear(), 3);
        CHECK.due("clear() with frequent pages alone", made(4, 1, 1, 3, 3).clear(), 2);
        CHECK.due("clear() with ghosts alone",
                Given.lists(4, 1, "recent | frequent | recent ghosts 5 4 | frequent ghosts 6").clear(), 0);
        AdaptiveReplacementCache most = made(32);
        for (int key = 0; key < 50; key++) {
            most.request(key);
        }
        CHECK.due("clear() of 32 pages", most.clear(), 32);
    }

    private static void targetAboveNewCapacity() {
        CHECK.words("If the target is greater than the new capacity, it becomes that.");
        // Target, new capacity, target after it.
        int[][] cases = {{5, 4, 4}, {5, 5, 5}, {5, 6, 5}, {8, 1, 1}, {1, 1, 1}, {0, 1, 0}, {8, 7, 7}, {8, 32, 8}};
        for (int[] one : cases) {
            AdaptiveReplacementCache x = Given.lists(8, one[0], EMPTY);
            CHECK.due("setCapacity(" + one[1] + ")", x.setCapacity(one[1]), 0);
            CHECK.due("target(), " + one[0] + " before", x.target(), one[2]);
            x.setCapacity(32);
            CHECK.due("target() after setCapacity(32)", x.target(), one[2]);
        }
        // It does so before a page is evicted: with 3 the only frequent page would go first.
        AdaptiveReplacementCache x = Given.lists(4, 3, "recent 30 20 10 | frequent 1 | recent ghosts | frequent ghosts");
        dueChange(x, 3, 1, "recent 30 20 10 | frequent | recent ghosts | frequent ghosts 1");
        AdaptiveReplacementCache cut = Given.lists(5, 3, "recent 30 20 10 | frequent 2 1 | recent ghosts | frequent ghosts");
        dueChange(cut, 2, 3, "recent 30 20 | frequent | recent ghosts | frequent ghosts 2 1");
    }

    private static void dueChange(AdaptiveReplacementCache x, int capacity, int evicted, String lists) {
        int before = x.evictions();
        CHECK.due("setCapacity(" + capacity + ")", x.setCapacity(capacity), evicted);
        CHECK.dueText("the lists after setCapacity(" + capacity + ")", Shown.lists(x), lists);
        CHECK.due("evictions by setCapacity(" + capacity + ")", x.evictions() - before, evicted);
        CHECK.due("capacity()", x.capacity(), capacity);
    }

    private static void morePagesThanCapacity() {
        CHECK.words("Then, as long as there are more pages in the cache than the capacity, a page is evicted");
        String lists = "recent | frequent 5 4 3 2 1 | recent ghosts | frequent ghosts";
        dueChange(Given.lists(8, 0, lists), 6, 0, lists);
        dueChange(Given.lists(8, 0, lists), 5, 0, lists);
        dueChange(Given.lists(8, 0, lists), 4, 1, "recent | frequent 5 4 3 2 | recent ghosts | frequent ghosts 1");
        dueChange(Given.lists(8, 0, lists), 3, 2, "recent | frequent 5 4 3 | recent ghosts | frequent ghosts 2 1");
        dueChange(Given.lists(8, 0, lists), 1, 4, "recent | frequent 5 | recent ghosts | frequent ghosts 4");
        // Recent and frequent pages count together; ghosts don't count.
        String both = "recent 20 10 | frequent 2 1 | recent ghosts 50 40 | frequent ghosts 60";
        dueChange(Given.lists(5, 1, both), 4, 0, both);
        dueChange(Given.lists(5, 1, both), 3, 1, "recent 20 | frequent 2 1 | recent ghosts 10 50 | frequent ghosts 60");
    }

    private static void evictedAsForNoList() {
        CHECK.words("(as if a key that is in no list was requested)");
        String lists = "recent 20 10 | frequent 2 1 | recent ghosts | frequent ghosts";
        // Longer than the target, as long as it (for a frequent ghost 10 would go), shorter.
        dueChange(Given.lists(4, 1, lists), 3, 1, "recent 20 | frequent 2 1 | recent ghosts 10 | frequent ghosts");
        dueChange(Given.lists(4, 2, lists), 3, 1, "recent 20 10 | frequent 2 | recent ghosts | frequent ghosts 1");
        dueChange(Given.lists(4, 3, lists), 3, 1, "recent 20 10 | frequent 2 | recent ghosts | frequent ghosts 1");
        // First a recent page; then the recent list is as long as the target.
        dueChange(Given.lists(4, 1, lists), 2, 2, "recent 20 | frequent 2 | recent ghosts 10 | frequent ghosts 1");
        // Recent pages alone: none is dropped without becoming a ghost first, and it counts as evicted.
        dueChange(Given.lists(4, 0, "recent 20 10 | frequent | recent ghosts | frequent ghosts"), 1, 1,
                "recent 20 | frequent | recent ghosts | frequent ghosts");
        // The target is 0 and there are no recent pages.
        dueChange(Given.lists(2, 0, "recent | frequent 2 1 | recent ghosts | frequent ghosts"), 1, 1,
                "recent | frequent 2 | recent ghosts | frequent ghosts 1");
        // The page leaves as the newest ghost, and is not one of those that are dropped then.
        dueChange(Given.lists(2, 0, "recent | frequent 2 1 | recent ghosts | frequent ghosts 6"), 1, 1,
                "recent | frequent 2 | recent ghosts | frequent ghosts 1");
        dueChange(Given.lists(3, 0, "recent 10 | frequent 2 1 | recent ghosts 50 40 | frequent ghosts"), 2, 1,
                "recent | frequent 2 1 | recent ghosts 10 50 | frequent ghosts");
    }

    private static void recentGhostsAboveCapacity() {
        CHECK.words("Then, as long as recent list and recent ghosts together are longer than the capacity,"
                + " the oldest recent ghost is dropped.");
        String lists = "recent 10 | frequent | recent ghosts 60 50 40 | frequent ghosts 70";
        dueChange(Given.lists(5, 1, lists), 4, 0, lists);
        dueChange(Given.lists(5, 1, lists), 3, 0, "recent 10 | frequent | recent ghosts 60 50 | frequent ghosts 70");
        dueChange(Given.lists(5, 1, lists), 2, 0, "recent 10 | frequent | recent ghosts 60 | frequent ghosts 70");
        dueChange(Given.lists(5, 1, lists), 1, 0, "recent 10 | frequent | recent ghosts | frequent ghosts 70");
        // Ghosts alone.
        String ghosts = "recent | frequent | recent ghosts 60 50 | frequent ghosts";
        dueChange(Given.lists(5, 1, ghosts), 2, 0, ghosts);
        dueChange(Given.lists(5, 1, ghosts), 1, 0, "recent | frequent | recent ghosts 60 | frequent ghosts");
        // Frequent pages and frequent ghosts don't count there.
        String frequent = "recent 10 | frequent 2 1 | recent ghosts 50 40 | frequent ghosts 70";
        dueChange(Given.lists(5, 1, frequent), 3, 0, frequent);
        // A page that has just become a ghost counts.
        dueChange(Given.lists(3, 0, "recent 30 20 10 | frequent | recent ghosts | frequent ghosts"), 2, 1,
                "recent 30 20 | frequent | recent ghosts | frequent ghosts");
    }

    private static void frequentGhostsAboveTwice() {
        CHECK.words("Then, as long as all four lists together have more than twice as many keys as the capacity,"
                + " the oldest frequent ghost is dropped.");
        String lists = "recent | frequent 1 | recent ghosts | frequent ghosts 90 80 70";
        dueChange(Given.lists(3, 0, lists), 2, 0, lists);
        dueChange(Given.lists(3, 0, lists), 1, 0, "recent | frequent 1 | recent ghosts | frequent ghosts 90");
        String odd = "recent 10 | frequent 1 | recent ghosts | frequent ghosts 90 80 70";
        dueChange(Given.lists(4, 1, odd), 3, 0, odd);
        dueChange(Given.lists(4, 1, odd), 2, 0, "recent 10 | frequent 1 | recent ghosts | frequent ghosts 90 80");
        // Ghosts alone.
        String ghosts = "recent | frequent | recent ghosts | frequent ghosts 90 80 70";
        dueChange(Given.lists(3, 0, ghosts), 2, 0, ghosts);
        dueChange(Given.lists(3, 0, ghosts), 1, 0, "recent | frequent | recent ghosts | frequent ghosts 90 80");
        // The recent ghosts are dropped first, and as many keys less are left then.
        dueChange(Given.lists(4, 1, "recent 10 | frequent 1 | recent ghosts 50 40 | frequent ghosts 80 70"), 2, 0,
                "recent 10 | frequent 1 | recent ghosts 50 | frequent ghosts 80");
        // Six keys, but after the recent ghost only four.
        dueChange(Given.lists(4, 0, "recent | frequent 1 | recent ghosts 60 50 40 | frequent ghosts 70"), 2, 0,
                "recent | frequent 1 | recent ghosts 60 50 | frequent ghosts 70");
    }

    private static void otherwiseNoChangeOfLists() {
        CHECK.words("Changes the capacity.");
        AdaptiveReplacementCache x = allLists();
        for (int capacity : new int[] {6, 7, 32, 31, 6}) {
            dueChange(x, capacity, 0, ALL_LISTS);
            CHECK.due("target()", x.target(), 2);
        }
        // Run, scan length and log stay as well.
        requestAll(x, 1, 1, 2);
        x.setScanLength(3);
        String would = wouldBe(x);
        x.setCapacity(2);
        CHECK.due("run()", x.run(), 2);
        CHECK.dueText("hitsIf and leastRecentHitsIf", wouldBe(x), would);
        CHECK.due("request(300)", x.request(300), MISS);
        CHECK.due("setScanLength(0)", x.setScanLength(0), 3);
        // After it a cache that was full is not: none is evicted until it is again.
        AdaptiveReplacementCache wide = made(2, 1, 1, 3, 3);
        dueChange(wide, 3, 0, "recent | frequent 3 1 | recent ghosts | frequent ghosts");
        dueRequest(wide, 5, MISS, "recent 5 | frequent 3 1 | recent ghosts | frequent ghosts");
        dueRequest(wide, 7, MISS, "recent 7 | frequent 3 1 | recent ghosts 5 | frequent ghosts");
    }

    private static void howManyWereEvicted() {
        CHECK.words("Returns how many pages were evicted.");
        CHECK.due("setCapacity(1) of an empty cache", new AdaptiveReplacementCache().setCapacity(1), 0);
        // Ghosts that are dropped don't count, evicted pages that are dropped as ghosts then do.
        CHECK.due("setCapacity(1) with ghosts alone",
                Given.lists(4, 1, "recent | frequent | recent ghosts 5 4 | frequent ghosts 7 6").setCapacity(1), 0);
        CHECK.due("setCapacity(1) with recent pages alone", made(4, 1, 3, 5, 7).setCapacity(1), 3);
        AdaptiveReplacementCache most = made(32);
        for (int key = 0; key < 64; key += 2) {
            requestAll(most, key, key);
        }
        for (int key = 100; key < 164; key += 2) {
            requestAll(most, key, key);
        }
        CHECK.due("evictions() before", most.evictions(), 32);
        CHECK.due("setCapacity(1) with 32 pages", most.setCapacity(1), 31);
        CHECK.due("evictions()", most.evictions(), 63);
        CHECK.due("setCapacity(1) again", most.setCapacity(1), 0);
    }

    private static void capacities() {
        CHECK.words("capacity: 1 to 32; throws IllegalArgumentException if capacity is out of range");
        AdaptiveReplacementCache x = allLists();
        for (int capacity : NO_CAPACITIES) {
            dueNoChange(x, "setCapacity(" + capacity + ")", BAD_ARGUMENT, () -> x.setCapacity(capacity));
        }
        for (int capacity : new int[] {32, 1, 2, 31}) {
            x.setCapacity(capacity);
            CHECK.due("capacity()", x.capacity(), capacity);
        }
        for (int capacity : NO_CAPACITIES) {
            CHECK.dueThrow("setCapacity(" + capacity + ")", BAD_ARGUMENT, () -> x.setCapacity(capacity));
            CHECK.due("capacity()", x.capacity(), 31);
        }
    }

    private static void targetFromZeroToCapacity() {
        CHECK.words("Returns the target for the length of the recent list, 0 to the capacity.");
        for (int target = 0; target <= 8; target++) {
            CHECK.due("target()", Given.lists(8, target, EMPTY).target(), target);
        }
        // The greatest capacity: 31 recent ghosts raise the target, by 1 at first and by more at last.
        AdaptiveReplacementCache x = made(32);
        for (int page = 0; page < 32; page++) {
            requestAll(x, 1000 + 2 * page, 1000 + 2 * page);
        }
        for (int page = 0; page < 32; page++) {
            x.request(2 * page);
        }
        CHECK.due("recentGhosts()", x.recentGhosts(), 31);
        for (int page = 0; page < 10; page++) {
            x.request(2 * page);
            CHECK.due("target()", x.target(), page + 1);
        }
        for (int page = 10; page < 31; page++) {
            x.request(2 * page);
        }
        CHECK.due("target()", x.target(), 32);
    }

    private static void sizes() {
        CHECK.words("Returns how many pages are in the cache.");
        CHECK.due("size(), ghosts alone",
                Given.lists(4, 1, "recent | frequent | recent ghosts 5 4 | frequent ghosts 6").size(), 0);
        CHECK.due("size(), recent pages alone", made(4, 1, 3, 5).size(), 3);
        CHECK.due("size(), frequent pages alone", made(4, 1, 3, 1, 3).size(), 2);
        CHECK.due("size(), pages of both kinds and ghosts", allLists().size(), 6);
        AdaptiveReplacementCache x = made(32);
        for (int page = 1; page <= 40; page++) {
            x.request(page);
            CHECK.due("size()", x.size(), Math.min(page, 32));
        }
    }

    private static void keysOfWhereIs() {
        CHECK.words("whereIs throws IllegalArgumentException if key is out of range");
        AdaptiveReplacementCache x = made(3, 0, 9999, 9999);
        for (int key : NO_KEYS) {
            dueNoChange(x, "whereIs(" + key + ")", BAD_ARGUMENT, () -> x.whereIs(key));
        }
        CHECK.due("whereIs(0)", x.whereIs(0), RECENT);
        CHECK.due("whereIs(9999)", x.whereIs(9999), FREQUENT);
        CHECK.due("whereIs(1)", x.whereIs(1), NOWHERE);
    }

    private static void listsOfWhereIs() {
        CHECK.words("Returns NOWHERE, RECENT, FREQUENT, RECENT_GHOST or FREQUENT_GHOST.");
        AdaptiveReplacementCache x = allLists();
        int[][] lists = {{0, 9999, 4, 29, 31}, {30, 20, 10}, {3, 2, 1}, {60, 50, 40}, {90, 80, 70}};
        for (int list = 0; list < lists.length; list++) {
            for (int key : lists[list]) {
                CHECK.due("whereIs(" + key + ")", x.whereIs(key), list);
            }
        }
        dueLists(x, ALL_LISTS);
    }

    /** What victim() answers, and that it is the page that leaves, if one does, by a request for a key in no list. */
    private static void dueVictim(int capacity, int target, String lists, int victim) {
        AdaptiveReplacementCache x = Given.lists(capacity, target, lists);
        String name = "victim() with " + lists + ", capacity " + capacity + ", target " + target;
        CHECK.due(name, x.victim(), victim);
        CHECK.dueText("the lists after victim()", Shown.lists(x), lists);
        int size = x.size();
        x.request(8000);
        CHECK.due("size() after a request for a key in no list", x.size(), victim == NONE ? size + 1 : size);
        if (victim != NONE) {
            int where = x.whereIs(victim);
            CHECK.due(name + " has left the cache", where == RECENT || where == FREQUENT ? 1 : 0, 0);
        }
    }

    private static void victimOfCacheNotFull() {
        CHECK.words("NONE if none would");
        CHECK.due("victim() of a new object", new AdaptiveReplacementCache().victim(), NONE);
        dueVictim(1, 0, EMPTY, NONE);
        dueVictim(4, 0, "recent 30 20 10 | frequent | recent ghosts | frequent ghosts", NONE);
        dueVictim(4, 0, "recent 20 10 | frequent 1 | recent ghosts | frequent ghosts 7", NONE);
        dueVictim(4, 4, "recent | frequent 3 2 1 | recent ghosts 4 | frequent ghosts", NONE);
        dueVictim(4, 0, "recent | frequent | recent ghosts 5 4 | frequent ghosts 8 7 6", NONE);
        // Once it was full, but a page was removed.
        AdaptiveReplacementCache x = made(2, 1, 1, 3, 3);
        CHECK.due("victim()", x.victim(), 1);
        x.remove(3);
        CHECK.due("victim()", x.victim(), NONE);
        x.clear();
        CHECK.due("victim()", x.victim(), NONE);
    }

    private static void victimOfFullCache() {
        CHECK.words("Returns which key would leave the cache (as a ghost");
        String lists = "recent 20 10 | frequent 2 1 | recent ghosts 40 | frequent ghosts 70";
        dueVictim(4, 0, lists, 10);
        dueVictim(4, 1, lists, 10);
        // As long as the target: not as for a frequent ghost.
        dueVictim(4, 2, lists, 1);
        dueVictim(4, 3, lists, 1);
        dueVictim(2, 0, "recent | frequent 2 1 | recent ghosts | frequent ghosts", 1);
        dueVictim(1, 1, "recent | frequent 1 | recent ghosts | frequent ghosts", 1);
        dueVictim(2, 0, "recent 10 | frequent 1 | recent ghosts | frequent ghosts", 10);
    }

    private static void victimThatIsDropped() {
        CHECK.words("or dropped)");
        // The recent list is as long as the capacity; the target does not matter.
        for (int target = 0; target <= 3; target++) {
            dueVictim(3, target, "recent 30 20 10 | frequent | recent ghosts | frequent ghosts 7", 10);
        }
        dueVictim(1, 1, "recent 10 | frequent | recent ghosts | frequent ghosts", 10);
        dueVictim(2, 2, "recent 20 10 | frequent | recent ghosts | frequent ghosts 8 7", 10);
    }

    private static void victimWhileGhostsAreDropped() {
        CHECK.words("if a key that is in no list was requested next");
        // A recent ghost is dropped: no page leaves a cache that is not full, one leaves a full one.
        dueVictim(4, 0, "recent 20 10 | frequent 1 | recent ghosts 50 40 | frequent ghosts", NONE);
        dueVictim(4, 0, "recent 20 10 | frequent 2 1 | recent ghosts 50 40 | frequent ghosts", 10);
        dueVictim(4, 2, "recent 20 10 | frequent 2 1 | recent ghosts 50 40 | frequent ghosts", 1);
        dueVictim(2, 0, "recent | frequent 1 | recent ghosts 50 40 | frequent ghosts", NONE);
        // A frequent ghost is dropped.
        dueVictim(2, 0, "recent | frequent 1 | recent ghosts 40 | frequent ghosts 80 70", NONE);
        dueVictim(2, 0, "recent | frequent 2 1 | recent ghosts 40 | frequent ghosts 70", 1);
    }

    private static void victimWithoutScan() {
        CHECK.words("and that request did not belong to a scan");
        AdaptiveReplacementCache x = made(2, 1, 2);
        x.setScanLength(2);
        CHECK.due("victim(), a scan may go on", x.victim(), 1);
        CHECK.due("request(3)", x.request(3), BYPASSED);
        CHECK.due("victim() in a scan", x.victim(), 1);
        dueLists(x, "recent 2 1 | frequent | recent ghosts | frequent ghosts");
        CHECK.due("run(), as victim() requests nothing", x.run(), 3);
        CHECK.due("requests()", x.requests(), 3);
        CHECK.due("evictions()", x.evictions(), 0);
        CHECK.due("request(4), the scan goes on", x.request(4), BYPASSED);
    }

    private static void recentLength() {
        CHECK.words("Returns the length of the recent list.");
        dueLengths(0);
    }

    private static void frequentLength() {
        CHECK.words("Returns the length of the frequent list.");
        dueLengths(1);
    }

    private static void recentGhostsLength() {
        CHECK.words("Returns how many recent ghosts there are.");
        dueLengths(2);
    }

    private static void frequentGhostsLength() {
        CHECK.words("Returns how many frequent ghosts there are.");
        dueLengths(3);
    }

    /** The length of one list, in a new object, in one whose lists have different lengths, and with full lists. */
    private static void dueLengths(int list) {
        dueLength(new AdaptiveReplacementCache(), list, 0, 0, 0, 0);
        dueLength(Given.lists(6, 2, "recent 20 10 | frequent 3 2 1 | recent ghosts 40 | frequent ghosts 80 70 71 72"),
                list, 2, 3, 1, 4);
        dueLength(Given.lists(4, 0, "recent 4 3 2 1 | frequent | recent ghosts | frequent ghosts"), list, 4, 0, 0, 0);
        dueLength(Given.lists(4, 0, "recent | frequent 4 3 2 1 | recent ghosts | frequent ghosts"), list, 0, 4, 0, 0);
        dueLength(Given.lists(4, 0, "recent | frequent | recent ghosts 4 3 2 1 | frequent ghosts"), list, 0, 0, 4, 0);
        dueLength(Given.lists(4, 0, "recent | frequent | recent ghosts | frequent ghosts 8 7 6 5 4 3 2 1"),
                list, 0, 0, 0, 8);
        AdaptiveReplacementCache recent = made(32);
        AdaptiveReplacementCache frequent = made(32);
        for (int key = 0; key < 100; key += 2) {
            requestAll(recent, key);
            requestAll(frequent, key, key);
        }
        dueLength(recent, list, 32, 0, 0, 0);
        dueLength(frequent, list, 0, 32, 0, 18);
        frequent.clear();
        dueLength(frequent, list, 0, 0, 0, 0);
    }

    private static void dueLength(AdaptiveReplacementCache x, int list, int... lengths) {
        CHECK.due("the length of list " + (list + 1), lengthOf(x, list), lengths[list]);
    }

    private static int lengthOf(AdaptiveReplacementCache x, int list) {
        switch (list) {
            case 0:
                return x.recentSize();
            case 1:
                return x.frequentSize();
            case 2:
                return x.recentGhosts();
            default:
                return x.frequentGhosts();
        }
    }

    private static void recentPlaces() {
        CHECK.words("Returns a key of the recent list. place: 0 for the newest one");
        duePlaces(0, 20, 10);
        AdaptiveReplacementCache longest = made(32);
        for (int key = 100; key < 164; key += 2) {
            longest.request(key);
        }
        CHECK.due("recentAt(31)", longest.recentAt(31), 100);
        CHECK.due("recentAt(0)", longest.recentAt(0), 162);
        dueNoPlaces(longest, 0, 32);
    }

    private static void frequentPlaces() {
        CHECK.words("Returns a key of the frequent list. place: 0 for the newest one");
        duePlaces(1, 3, 2, 1);
    }

    private static void recentGhostPlaces() {
        CHECK.words("Returns a recent ghost. place: 0 for the newest one");
        duePlaces(2, 44, 43, 42, 41);
    }

    private static void frequentGhostPlaces() {
        CHECK.words("Returns a frequent ghost. place: 0 for the newest one");
        duePlaces(3, 70);
    }

    /** The lists have different lengths, so that the length of another list is noticed. */
    private static void duePlaces(int list, int... keys) {
        AdaptiveReplacementCache x = Given.lists(8, 2,
                "recent 20 10 | frequent 3 2 1 | recent ghosts 44 43 42 41 | frequent ghosts 70");
        for (int place = 0; place < keys.length; place++) {
            CHECK.due(nameAt(list, place), keyAt(x, list, place), keys[place]);
        }
        dueNoPlaces(x, list, keys.length);
        // A place that was there before a key left.
        for (int left = keys.length - 1; left >= 0; left--) {
            x.remove(keys[left]);
            dueNoPlaces(x, list, left);
        }
    }

    private static void noSuchPlaces() {
        CHECK.words("Throws IndexOutOfBoundsException if there is no such place");
        AdaptiveReplacementCache cleared = allLists();
        cleared.clear();
        for (int list = 0; list < 4; list++) {
            dueNoPlaces(new AdaptiveReplacementCache(), list, 0);
            dueNoPlaces(cleared, list, 0);
            dueNoPlaces(allLists(), list, 3);
        }
    }

    private static void dueNoPlaces(AdaptiveReplacementCache x, int list, int length) {
        int[] places = {-1, length, length + 1, 32, 64, Integer.MIN_VALUE, Integer.MAX_VALUE,
            Integer.MIN_VALUE + length, Integer.MAX_VALUE - length};
        for (int place : places) {
            dueNoChange(x, nameAt(list, place), BAD_PLACE, () -> keyAt(x, list, place));
        }
    }

    private static String nameAt(int list, int place) {
        String[] names = {"recentAt", "frequentAt", "recentGhostAt", "frequentGhostAt"};
        return names[list] + "(" + place + ")";
    }

    private static int keyAt(AdaptiveReplacementCache x, int list, int place) {
        switch (list) {
            case 0:
                return x.recentAt(place);
            case 1:
                return x.frequentAt(place);
            case 2:
                return x.recentGhostAt(place);
            default:
                return x.frequentGhostAt(place);
        }
    }
}
