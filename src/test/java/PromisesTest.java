/** Each promise of the document by runs whose answers were worked out by hand from its words. */
public final class PromisesTest extends TestTools {
    public static void main(String[] args) {
        promise1NewObject();
        promise2Hits();
        promise2RecentGhosts();
        promise2FrequentGhosts();
        promise2Misses();
        promise2Scans();
        promise2NoKey();
        promise3Remove();
        promise4Clear();
        promise5SetCapacity();
        promise5Target();
        promise6Capacity();
        promise7SetScanLength();
        promise8Run();
        promise9Target();
        promise10Size();
        promise11WhereIs();
        promise12Victim();
        promises13To16Lengths();
        promises17To20Places();
        promises21To25Counters();
        promise26HitsIf();
        promise26Log();
        promise27LeastRecentHitsIf();
        CHECK.end();
    }

    /** Capacity 6, target 0; keys in all lists but the frequent ghosts. */
    private static AdaptiveReplacementCache withRecentGhosts() {
        AdaptiveReplacementCache x = made(6, 1, 1, 3, 3, 5, 5, 7, 7, 9, 9, 10, 20, 30, 40, 50, 60);
        CHECK.dueText("the lists", Shown.lists(x),
                "recent 60 | frequent 9 7 5 3 1 | recent ghosts 50 40 30 20 10 | frequent ghosts");
        return x;
    }

    /** Capacity 6, target 2; keys in all four lists. */
    private static AdaptiveReplacementCache withAllLists() {
        AdaptiveReplacementCache x = withRecentGhosts();
        requestAll(x, 10, 20);
        CHECK.dueText("the lists", Shown.lists(x),
                "recent 60 | frequent 20 10 9 7 5 | recent ghosts 50 40 30 | frequent ghosts 3 1");
        CHECK.due("target()", x.target(), 2);
        return x;
    }

    private static void promise1NewObject() {
        AdaptiveReplacementCache x = new AdaptiveReplacementCache();
        CHECK.dueText("the lists", Shown.lists(x), EMPTY);
        CHECK.dueText("the counters", Shown.counters(x), "requests 0 hits 0 ghost hits 0 bypassed 0 evictions 0");
        CHECK.due("capacity()", x.capacity(), 8);
        CHECK.due("target()", x.target(), 0);
        CHECK.due("run()", x.run(), 0);
        CHECK.due("size()", x.size(), 0);
        CHECK.due("victim()", x.victim(), NONE);
        CHECK.due("hitsIf(32)", x.hitsIf(32), 0);
        CHECK.due("leastRecentHitsIf(32)", x.leastRecentHitsIf(32), 0);
        for (int key = 0; key <= 9999; key++) {
            CHECK.due("whereIs(" + key + ")", x.whereIs(key), NOWHERE);
        }
        CHECK.due("setScanLength(0), the scan length before", x.setScanLength(0), 0);
        AdaptiveReplacementCache other = new AdaptiveReplacementCache();
        other.request(4);
        CHECK.dueText("the lists after a request to another object", Shown.lists(x), EMPTY);
    }

    private static void promise2Hits() {
        AdaptiveReplacementCache x = made(4);
        dueRequest(x, 0, MISS, "recent 0 | frequent | recent ghosts | frequent ghosts");
        dueRequest(x, 9999, MISS, "recent 9999 0 | frequent | recent ghosts | frequent ghosts");
        dueRequest(x, 0, RECENT, "recent 9999 | frequent 0 | recent ghosts | frequent ghosts");
        dueRequest(x, 9999, RECENT, "recent | frequent 9999 0 | recent ghosts | frequent ghosts");
        dueRequest(x, 0, FREQUENT, "recent | frequent 0 9999 | recent ghosts | frequent ghosts");
        dueRequest(x, 0, FREQUENT, "recent | frequent 0 9999 | recent ghosts | frequent ghosts");
    }

    private static void promise2RecentGhosts() {
        AdaptiveReplacementCache x = withRecentGhosts();
        int[] keys = {10, 20, 30, 40, 50};
        // Raised by 0/5, 1/4, 2/3 and 3/2, each counted as 1, then by 4/1, but not above 6.
        int[] targets = {1, 2, 3, 4, 6};
        for (int i = 0; i < keys.length; i++) {
            CHECK.due("request(" + keys[i] + ")", x.request(keys[i]), RECENT_GHOST);
            CHECK.due("target() after request(" + keys[i] + ")", x.target(), targets[i]);
        }
        CHECK.dueText("the lists", Shown.lists(x),
                "recent 60 | frequent 50 40 30 20 10 | recent ghosts | frequent ghosts 9 7 5 3 1");
        // Not full: raised by 2/1, and no page is evicted.
        AdaptiveReplacementCache wide = withAllLists();
        wide.setCapacity(9);
        requestAll(wide, 30);
        CHECK.due("target(), raised by 2/3 as 1", wide.target(), 3);
        wide.remove(50);
        int evictions = wide.evictions();
        dueRequest(wide, 40, RECENT_GHOST,
                "recent 60 | frequent 40 30 20 10 9 7 5 | recent ghosts | frequent ghosts 3 1");
        CHECK.due("target(), raised by 2/1", wide.target(), 5);
        CHECK.due("evictions()", wide.evictions(), evictions);
        // The target is raised before the eviction: here the recent list is no longer above it.
        AdaptiveReplacementCache small = made(2, 10, 20, 30, 20, 40);
        CHECK.dueText("the lists", Shown.lists(small), "recent 40 | frequent 20 | recent ghosts 30 | frequent ghosts");
        dueRequest(small, 30, RECENT_GHOST, "recent 40 | frequent 30 | recent ghosts | frequent ghosts 20");
        // A recent list longer than the target loses its oldest key for a recent ghost also.
        AdaptiveReplacementCache longer = made(4, 1, 1, 10, 20, 30, 40);
        dueRequest(longer, 10, RECENT_GHOST, "recent 40 30 | frequent 10 1 | recent ghosts 20 | frequent ghosts");
    }

    private static void promise2FrequentGhosts() {
        AdaptiveReplacementCache x = made(3, 1, 1, 3, 3, 5, 7, 9, 5, 7);
        CHECK.dueText("the lists", Shown.lists(x), "recent 9 | frequent 7 5 | recent ghosts | frequent ghosts 3 1");
        CHECK.due("target()", x.target(), 2);
        // The recent list is as long as the lowered target.
        dueRequest(x, 1, FREQUENT_GHOST, "recent | frequent 1 7 5 | recent ghosts 9 | frequent ghosts 3");
        CHECK.due("target(), lowered by 0/2 as 1", x.target(), 1);
        // It is as long as the target, but empty.
        dueRequest(x, 3, FREQUENT_GHOST, "recent | frequent 3 1 7 | recent ghosts 9 | frequent ghosts 5");
        CHECK.due("target(), lowered by 1/1", x.target(), 0);
        dueRequest(x, 5, FREQUENT_GHOST, "recent | frequent 5 3 1 | recent ghosts 9 | frequent ghosts 7");
        CHECK.due("target(), not below 0", x.target(), 0);
        // Lowered by 2/1.
        AdaptiveReplacementCache wide = withAllLists();
        wide.request(30);
        wide.remove(1);
        wide.remove(3);
        CHECK.dueText("the lists", Shown.lists(wide),
                "recent 60 | frequent 30 20 10 9 7 | recent ghosts 50 40 | frequent ghosts 5");
        CHECK.due("target()", wide.target(), 3);
        dueRequest(wide, 5, FREQUENT_GHOST,
                "recent | frequent 5 30 20 10 9 7 | recent ghosts 60 50 40 | frequent ghosts");
        CHECK.due("target(), lowered by 2/1", wide.target(), 1);
        // Lowered by 3/2, rounded down.
        AdaptiveReplacementCache rounded = withAllLists();
        dueRequest(rounded, 3, FREQUENT_GHOST,
                "recent | frequent 3 20 10 9 7 5 | recent ghosts 60 50 40 30 | frequent ghosts 1");
        CHECK.due("target(), lowered by 3/2", rounded.target(), 1);
        // Not full: no page is evicted.
        AdaptiveReplacementCache roomy = withAllLists();
        roomy.remove(60);
        dueRequest(roomy, 1, FREQUENT_GHOST,
                "recent | frequent 1 20 10 9 7 5 | recent ghosts 50 40 30 | frequent ghosts 3");
    }

    private static void promise2Misses() {
        AdaptiveReplacementCache x = made(3, 10, 20, 30);
        // Recent list alone as long as the capacity: its oldest key is dropped.
        dueRequest(x, 40, MISS, "recent 40 30 20 | frequent | recent ghosts | frequent ghosts");
        CHECK.due("evictions()", x.evictions(), 1);
        CHECK.due("whereIs(10)", x.whereIs(10), NOWHERE);
        // As long as the capacity with ghosts: the oldest ghost is dropped, and a page evicted.
        AdaptiveReplacementCache ghosts = made(4, 1, 1, 10, 20, 30, 40);
        CHECK.dueText("the lists", Shown.lists(ghosts), "recent 40 30 20 | frequent 1 | recent ghosts 10 | frequent ghosts");
        dueRequest(ghosts, 50, MISS, "recent 50 40 30 | frequent 1 | recent ghosts 20 | frequent ghosts");
        CHECK.due("evictions()", ghosts.evictions(), 2);
        // The same, but not full: no page is evicted.
        ghosts.remove(1);
        dueRequest(ghosts, 60, MISS, "recent 60 50 40 30 | frequent | recent ghosts | frequent ghosts");
        CHECK.due("evictions()", ghosts.evictions(), 2);
        // Shorter, then with twice as many keys as the capacity: the oldest frequent ghost is dropped.
        AdaptiveReplacementCache shorter = made(3, 1, 1, 3, 3, 5, 7, 9, 5, 7);
        dueRequest(shorter, 11, MISS, "recent 11 9 | frequent 7 | recent ghosts | frequent ghosts 5 3 1");
        dueRequest(shorter, 13, MISS, "recent 13 11 9 | frequent | recent ghosts | frequent ghosts 7 5 3");
        // Twice as many keys, but the recent list as long as the capacity: no ghost is dropped.
        dueRequest(shorter, 15, MISS, "recent 15 13 11 | frequent | recent ghosts | frequent ghosts 7 5 3");
        // Full, with the recent list as long as the target: the frequent list loses its oldest key.
        dueRequest(shorter, 15, RECENT, "recent 13 11 | frequent 15 | recent ghosts | frequent ghosts 7 5 3");
        dueRequest(shorter, 17, MISS, "recent 17 13 11 | frequent | recent ghosts | frequent ghosts 15 7 5");
        // Not full: nothing leaves.
        AdaptiveReplacementCache roomy = made(3, 1, 1, 5);
        dueRequest(roomy, 7, MISS, "recent 7 5 | frequent 1 | recent ghosts | frequent ghosts");
        CHECK.due("evictions()", roomy.evictions(), 0);
        // The first capacity is 8.
        AdaptiveReplacementCache first = new AdaptiveReplacementCache();
        requestAll(first, 1, 2, 3, 4, 5, 6, 7, 8);
        dueRequest(first, 9, MISS, "recent 9 8 7 6 5 4 3 2 | frequent | recent ghosts | frequent ghosts");
    }

    /** One scan goes over neighbours in all four lists, and over keys in none. */
    private static void promise2Scans() {
        AdaptiveReplacementCache x = made(3, 13, 13, 51, 51, 12, 14, 10, 12);
        CHECK.dueText("the lists", Shown.lists(x), "recent 10 | frequent 12 51 | recent ghosts 14 | frequent ghosts 13");
        x.setScanLength(2);
        dueRequest(x, 9, MISS, "recent 9 10 | frequent 12 | recent ghosts 14 | frequent ghosts 51 13");
        String lists = Shown.lists(x);
        int[] keys = {10, 11, 12, 13, 14, 15};
        int[] outcomes = {RECENT, BYPASSED, FREQUENT, BYPASSED, BYPASSED, BYPASSED};
        for (int i = 0; i < keys.length; i++) {
            dueRequest(x, keys[i], outcomes[i], lists);
            CHECK.due("target()", x.target(), 1);
            CHECK.due("run()", x.run(), i + 2);
        }
        CHECK.dueText("the counters", Shown.counters(x), "requests 15 hits 4 ghost hits 1 bypassed 4 evictions 4");
        // The scan ends.
        CHECK.due("request(14)", x.request(14), RECENT_GHOST);
        // A run below the scan length is none.
        AdaptiveReplacementCache y = made(4);
        y.setScanLength(3);
        dueRequest(y, 5, MISS, "recent 5 | frequent | recent ghosts | frequent ghosts");
        dueRequest(y, 6, MISS, "recent 6 5 | frequent | recent ghosts | frequent ghosts");
        dueRequest(y, 7, BYPASSED, "recent 6 5 | frequent | recent ghosts | frequent ghosts");
        dueRequest(y, 7, MISS, "recent 7 6 5 | frequent | recent ghosts | frequent ghosts");
    }

    private static void promise2NoKey() {
        AdaptiveReplacementCache x = withAllLists();
        for (int key : NO_KEYS) {
            dueNoChange(x, "request(" + key + ")", BAD_ARGUMENT, () -> x.request(key));
        }
        AdaptiveReplacementCache edge = made(4, 9999);
        CHECK.dueThrow("request(10000)", BAD_ARGUMENT, () -> edge.request(10000));
        edge.request(9998);
        CHECK.dueThrow("request(-1)", BAD_ARGUMENT, () -> edge.request(-1));
        edge.request(9999);
        CHECK.due("run()", edge.run(), 2);
        AdaptiveReplacementCache zero = made(4);
        CHECK.dueThrow("request(-1)", BAD_ARGUMENT, () -> zero.request(-1));
        zero.request(0);
        CHECK.due("run()", zero.run(), 1);
    }

    private static void promise3Remove() {
        AdaptiveReplacementCache x = withAllLists();
        String counters = Shown.counters(x);
        int run = x.run();
        CHECK.due("remove(60)", x.remove(60), RECENT);
        CHECK.due("remove(9)", x.remove(9), FREQUENT);
        CHECK.due("remove(40)", x.remove(40), RECENT_GHOST);
        CHECK.due("remove(1)", x.remove(1), FREQUENT_GHOST);
        CHECK.due("remove(0)", x.remove(0), NOWHERE);
        CHECK.due("remove(9999)", x.remove(9999), NOWHERE);
        CHECK.due("remove(60)", x.remove(60), NOWHERE);
        CHECK.dueText("the lists", Shown.lists(x), "recent | frequent 20 10 7 5 | recent ghosts 50 30 | frequent ghosts 3");
        CHECK.dueText("the counters", Shown.counters(x), counters);
        CHECK.due("target()", x.target(), 2);
        CHECK.due("run()", x.run(), run);
        CHECK.due("capacity()", x.capacity(), 6);
        CHECK.due("request(60)", x.request(60), MISS);
        for (int key : NO_KEYS) {
            dueNoChange(x, "remove(" + key + ")", BAD_ARGUMENT, () -> x.remove(key));
        }
        // It changes no run and no log.
        AdaptiveReplacementCache y = made(4, 7, 7);
        y.remove(7);
        CHECK.due("hitsIf(4)", y.hitsIf(4), 1);
        y.request(8);
        CHECK.due("run()", y.run(), 2);
    }

    private static void promise4Clear() {
        AdaptiveReplacementCache x = withAllLists();
        x.setScanLength(3);
        String counters = Shown.counters(x);
        int wouldHit = x.hitsIf(6);
        int leastRecent = x.leastRecentHitsIf(6);
        CHECK.due("clear()", x.clear(), 6);
        CHECK.dueText("the lists", Shown.lists(x), EMPTY);
        CHECK.due("target()", x.target(), 0);
        CHECK.due("capacity()", x.capacity(), 6);
        CHECK.due("run()", x.run(), 1);
        CHECK.dueText("the counters", Shown.counters(x), counters);
        CHECK.due("hitsIf(6)", x.hitsIf(6), wouldHit);
        CHECK.due("hitsIf(6) is some", wouldHit > 0 ? 1 : 0, 1);
        CHECK.due("leastRecentHitsIf(6)", x.leastRecentHitsIf(6), leastRecent);
        CHECK.due("clear() again", x.clear(), 0);
        requestAll(x, 21);
        CHECK.due("run() after 20, clear, 21", x.run(), 2);
        CHECK.due("setScanLength(0), the scan length before", x.setScanLength(0), 3);
        CHECK.due("clear() of a new object", new AdaptiveReplacementCache().clear(), 0);
        // Ghosts are no pages.
        AdaptiveReplacementCache y = made(4, 1, 1, 10, 20, 30, 40);
        CHECK.due("clear()", y.clear(), 4);
    }

    private static void promise5SetCapacity() {
        AdaptiveReplacementCache x = withAllLists();
        // Recent 60 stays, as the recent list is not longer than the target; three frequent pages go.
        int evictions = x.evictions();
        CHECK.due("setCapacity(3)", x.setCapacity(3), 3);
        CHECK.dueText("the lists", Shown.lists(x), "recent 60 | frequent 20 10 | recent ghosts 50 40 | frequent ghosts 9");
        CHECK.due("evictions()", x.evictions(), evictions + 3);
        CHECK.due("capacity()", x.capacity(), 3);
        CHECK.due("target()", x.target(), 2);
        // The recent list is longer than the target: its pages go first, and become ghosts.
        AdaptiveReplacementCache recent = made(4, 1, 3, 5, 7, 1, 3, 9, 11);
        CHECK.dueText("the lists", Shown.lists(recent), "recent 11 9 | frequent 3 1 | recent ghosts 7 5 | frequent ghosts");
        CHECK.due("setCapacity(2)", recent.setCapacity(2), 2);
        CHECK.dueText("the lists", Shown.lists(recent), "recent | frequent 3 1 | recent ghosts 11 9 | frequent ghosts");
        CHECK.due("setCapacity(1)", recent.setCapacity(1), 1);
        // Three keys are more than twice the capacity: the frequent ghost is dropped.
        CHECK.dueText("the lists", Shown.lists(recent), "recent | frequent 3 | recent ghosts 11 | frequent ghosts");
        // The target is cut before the evictions.
        AdaptiveReplacementCache cut = withRecentGhosts();
        requestAll(cut, 10, 20, 30, 40, 50, 60, 71, 73, 75);
        CHECK.dueText("the lists", Shown.lists(cut),
                "recent 75 73 71 | frequent 60 50 40 | recent ghosts | frequent ghosts 30 20 10 9 7 5");
        CHECK.due("target()", cut.target(), 6);
        CHECK.due("setCapacity(2)", cut.setCapacity(2), 4);
        CHECK.dueText("the lists", Shown.lists(cut), "recent 75 73 | frequent | recent ghosts | frequent ghosts 60 50");
        // A greater capacity, and the same one again, move nothing.
        AdaptiveReplacementCache wide = withAllLists();
        String lists = Shown.lists(wide);
        CHECK.due("setCapacity(6)", wide.setCapacity(6), 0);
        CHECK.due("setCapacity(32)", wide.setCapacity(32), 0);
        CHECK.dueText("the lists", Shown.lists(wide), lists);
        CHECK.due("target()", wide.target(), 2);
        for (int capacity : NO_CAPACITIES) {
            dueNoChange(wide, "setCapacity(" + capacity + ")", BAD_ARGUMENT, () -> wide.setCapacity(capacity));
        }
        // Without frequent pages, those of the recent list go though the target is 0.
        AdaptiveReplacementCache alone = made(32, 1, 2, 3, 4, 5);
        CHECK.due("setCapacity(2)", alone.setCapacity(2), 3);
        CHECK.dueText("the lists", Shown.lists(alone), "recent 5 4 | frequent | recent ghosts | frequent ghosts");
    }

    private static void promise5Target() {
        AdaptiveReplacementCache x = withRecentGhosts();
        requestAll(x, 10, 20, 30, 40, 50);
        CHECK.due("target()", x.target(), 6);
        x.setCapacity(4);
        CHECK.due("target() after setCapacity(4)", x.target(), 4);
        x.setCapacity(5);
        CHECK.due("target() after setCapacity(5)", x.target(), 4);
        x.setCapacity(4);
        CHECK.due("target() after setCapacity(4)", x.target(), 4);
        x.setCapacity(1);
        CHECK.due("target() after setCapacity(1)", x.target(), 1);
        CHECK.dueText("the lists", Shown.lists(x), "recent 60 | frequent | recent ghosts | frequent ghosts 50");
        // The most keys that can be: 32 pages and 32 ghosts, then all but two of them go.
        AdaptiveReplacementCache full = new AdaptiveReplacementCache();
        full.setCapacity(32);
        for (int key = 0; key < 32; key++) {
            requestAll(full, key, key);
        }
        for (int key = 100; key < 132; key++) {
            requestAll(full, key, key);
        }
        CHECK.due("frequentSize()", full.frequentSize(), 32);
        CHECK.due("frequentGhosts() and recentGhosts()", full.frequentGhosts() + full.recentGhosts(), 32);
        CHECK.due("setCapacity(1)", full.setCapacity(1), 31);
        CHECK.dueText("the lists", Shown.lists(full), "recent | frequent 131 | recent ghosts | frequent ghosts 130");
    }

    private static void promise6Capacity() {
        AdaptiveReplacementCache x = new AdaptiveReplacementCache();
        CHECK.due("capacity()", x.capacity(), 8);
        for (int capacity = 1; capacity <= 32; capacity++) {
            x.setCapacity(capacity);
            CHECK.due("capacity()", x.capacity(), capacity);
            for (int key = 0; key < 40; key++) {
                x.request(key);
            }
            CHECK.due("size()", x.size(), capacity);
            x.clear();
        }
    }

    private static void promise7SetScanLength() {
        AdaptiveReplacementCache x = made(32);
        int before = 0;
        for (int length = 2; length <= 20; length++) {
            CHECK.due("setScanLength(" + length + ")", x.setScanLength(length), before);
            before = length;
            x.clear();
            x.request(9000);
            for (int run = 1; run <= length + 1; run++) {
                int outcome = x.request(100 * length + run);
                CHECK.due("request with run " + run + " and scan length " + length, outcome,
                        run < length ? MISS : BYPASSED);
            }
        }
        int run = x.run();
        CHECK.due("setScanLength(0)", x.setScanLength(0), 20);
        CHECK.due("run()", x.run(), run);
        CHECK.due("request(2022), no scan", x.request(2022), MISS);
        CHECK.due("setScanLength(20)", x.setScanLength(20), 0);
        CHECK.due("request(2023), the run goes on", x.request(2023), BYPASSED);
        for (int length : NO_SCAN_LENGTHS) {
            dueNoChange(x, "setScanLength(" + length + ")", BAD_ARGUMENT, () -> x.setScanLength(length));
        }
        CHECK.due("setScanLength(2) after wrong ones", x.setScanLength(2), 20);
    }

    private static void promise8Run() {
        AdaptiveReplacementCache x = made(4);
        int[] keys = {0, 1, 2, 2, 3, 5, 6, 5, 6, 7, 0, 9998, 9999, 0};
        int[] runs = {1, 2, 3, 1, 2, 1, 2, 1, 2, 3, 1, 1, 2, 1};
        CHECK.due("run()", x.run(), 0);
        for (int i = 0; i < keys.length; i++) {
            x.request(keys[i]);
            CHECK.due("run() after request(" + keys[i] + ")", x.run(), runs[i]);
        }
        x.request(40);
        x.remove(40);
        x.setCapacity(2);
        x.setScanLength(2);
        x.clear();
        CHECK.due("run()", x.run(), 1);
        // Bypassed requests and those that hit in a scan lengthen it as well.
        requestAll(x, 41, 42, 43);
        CHECK.due("run()", x.run(), 4);
    }

    private static void promise9Target() {
        AdaptiveReplacementCache x = made(1, 1, 1, 2);
        CHECK.due("target()", x.target(), 0);
        dueRequest(x, 1, FREQUENT_GHOST, "recent | frequent 1 | recent ghosts 2 | frequent ghosts");
        CHECK.due("target()", x.target(), 0);
        dueRequest(x, 2, RECENT_GHOST, "recent | frequent 2 | recent ghosts | frequent ghosts 1");
        CHECK.due("target()", x.target(), 1);
        dueRequest(x, 1, FREQUENT_GHOST, "recent | frequent 1 | recent ghosts | frequent ghosts 2");
        CHECK.due("target()", x.target(), 0);
    }

    private static void promise10Size() {
        AdaptiveReplacementCache x = made(3);
        int[] keys = {1, 1, 3, 3, 5, 7, 9};
        int[] sizes = {1, 1, 2, 2, 3, 3, 3};
        for (int i = 0; i < keys.length; i++) {
            x.request(keys[i]);
            CHECK.due("size() after request(" + keys[i] + ")", x.size(), sizes[i]);
        }
        x.remove(1);
        CHECK.due("size()", x.size(), 2);
        x.remove(7);
        CHECK.due("size() after a ghost was removed", x.size(), 2);
    }

    private static void promise11WhereIs() {
        AdaptiveReplacementCache x = withAllLists();
        String before = Shown.all(x);
        int[] keys = {60, 20, 10, 9, 7, 5, 50, 40, 30, 3, 1, 0, 9999, 2};
        int[] lists = {1, 2, 2, 2, 2, 2, 3, 3, 3, 4, 4, 0, 0, 0};
        for (int i = 0; i < keys.length; i++) {
            CHECK.due("whereIs(" + keys[i] + ")", x.whereIs(keys[i]), lists[i]);
        }
        CHECK.dueText("the object", Shown.all(x), before);
        for (int key : NO_KEYS) {
            dueNoChange(x, "whereIs(" + key + ")", BAD_ARGUMENT, () -> x.whereIs(key));
        }
    }

    private static void promise12Victim() {
        AdaptiveReplacementCache x = made(3);
        CHECK.due("victim() of an empty cache", x.victim(), NONE);
        requestAll(x, 1, 3);
        CHECK.due("victim(), not full", x.victim(), NONE);
        x.request(5);
        CHECK.due("victim(), to be dropped", x.victim(), 1);
        x.request(1);
        CHECK.due("victim(), the oldest recent page", x.victim(), 3);
        requestAll(x, 3, 5);
        CHECK.due("victim(), the oldest frequent page", x.victim(), 1);
        // As long as the target: not the recent page, as it would be for a frequent ghost.
        AdaptiveReplacementCache y = made(3, 1, 1, 3, 3, 5, 7, 9, 5);
        CHECK.dueText("the lists", Shown.lists(y), "recent 9 | frequent 5 3 | recent ghosts 7 | frequent ghosts 1");
        CHECK.due("target()", y.target(), 1);
        CHECK.due("victim()", y.victim(), 3);
        // Recent list and recent ghosts as long as the capacity, but not full: only a ghost would go.
        AdaptiveReplacementCache z = made(4, 1, 1, 10, 20, 30, 40);
        CHECK.due("victim()", z.victim(), 20);
        z.remove(1);
        CHECK.due("victim()", z.victim(), NONE);
        // The recent list as long as the capacity is not longer than the target, but loses a page all the same.
        AdaptiveReplacementCache one = made(1, 1, 1, 2, 1, 2, 3);
        CHECK.dueText("the lists", Shown.lists(one), "recent 3 | frequent | recent ghosts | frequent ghosts 2");
        CHECK.due("target()", one.target(), 1);
        CHECK.due("victim()", one.victim(), 3);
        // The run that the next request may lengthen does not matter.
        AdaptiveReplacementCache scan = made(2, 1, 2);
        scan.setScanLength(2);
        CHECK.due("victim()", scan.victim(), 1);
        scan.request(3);
        CHECK.due("victim()", scan.victim(), 1);
        CHECK.due("evictions(), as victim() evicts nothing", scan.evictions(), 0);
        CHECK.due("size()", scan.size(), 2);
    }

    private static void promises13To16Lengths() {
        AdaptiveReplacementCache x = withAllLists();
        CHECK.due("recentSize()", x.recentSize(), 1);
        CHECK.due("frequentSize()", x.frequentSize(), 5);
        CHECK.due("recentGhosts()", x.recentGhosts(), 3);
        CHECK.due("frequentGhosts()", x.frequentGhosts(), 2);
        x.remove(60);
        x.remove(20);
        x.remove(50);
        x.remove(3);
        CHECK.due("recentSize()", x.recentSize(), 0);
        CHECK.due("frequentSize()", x.frequentSize(), 4);
        CHECK.due("recentGhosts()", x.recentGhosts(), 2);
        CHECK.due("frequentGhosts()", x.frequentGhosts(), 1);
    }

    private static void promises17To20Places() {
        AdaptiveReplacementCache x = withRecentGhosts();
        x.setCapacity(8);
        x.request(70);
        requestAll(x, 10, 20, 30, 80);
        CHECK.dueText("the lists", Shown.lists(x),
                "recent 80 70 60 | frequent 30 20 10 9 7 | recent ghosts 50 40 | frequent ghosts 5 3 1");
        CHECK.due("recentAt(2)", x.recentAt(2), 60);
        CHECK.due("frequentAt(4)", x.frequentAt(4), 7);
        CHECK.due("recentGhostAt(1)", x.recentGhostAt(1), 40);
        CHECK.due("frequentGhostAt(2)", x.frequentGhostAt(2), 1);
        dueNoPlaces(x);
        dueNoPlaces(new AdaptiveReplacementCache());
    }

    private static void dueNoPlaces(AdaptiveReplacementCache x) {
        for (int wrong : new int[] {-1, 0, Integer.MIN_VALUE, Integer.MAX_VALUE}) {
            int recent = wrong == 0 ? x.recentSize() : wrong;
            int frequent = wrong == 0 ? x.frequentSize() : wrong;
            int recentGhost = wrong == 0 ? x.recentGhosts() : wrong;
            int frequentGhost = wrong == 0 ? x.frequentGhosts() : wrong;
            dueNoChange(x, "recentAt(" + recent + ")", BAD_PLACE, () -> x.recentAt(recent));
            dueNoChange(x, "frequentAt(" + frequent + ")", BAD_PLACE, () -> x.frequentAt(frequent));
            dueNoChange(x, "recentGhostAt(" + recentGhost + ")", BAD_PLACE, () -> x.recentGhostAt(recentGhost));
            dueNoChange(x, "frequentGhostAt(" + frequentGhost + ")", BAD_PLACE,
                    () -> x.frequentGhostAt(frequentGhost));
        }
    }

    private static void promises21To25Counters() {
        AdaptiveReplacementCache x = withAllLists();
        // Five hits on the recent list, two recent ghosts; four pages left for misses, two for ghosts.
        CHECK.dueText("the counters", Shown.counters(x), "requests 18 hits 5 ghost hits 2 bypassed 0 evictions 7");
        requestAll(x, 20, 3);
        CHECK.dueText("the counters", Shown.counters(x), "requests 20 hits 6 ghost hits 3 bypassed 0 evictions 8");
        x.setScanLength(2);
        // 20 is a hit; 21 and 22 belong to a scan.
        requestAll(x, 20, 21, 22);
        CHECK.dueText("the counters", Shown.counters(x), "requests 23 hits 7 ghost hits 3 bypassed 2 evictions 8");
        for (int key : NO_KEYS) {
            CHECK.dueThrow("request(" + key + ")", BAD_ARGUMENT, () -> x.request(key));
        }
        x.remove(20);
        x.hitsIf(2);
        x.leastRecentHitsIf(2);
        CHECK.dueText("the counters", Shown.counters(x), "requests 23 hits 7 ghost hits 3 bypassed 2 evictions 8");
        x.setCapacity(2);
        CHECK.due("evictions() after setCapacity(2)", x.evictions(), 11);
        x.clear();
        CHECK.dueText("the counters", Shown.counters(x), "requests 23 hits 7 ghost hits 3 bypassed 2 evictions 11");
        // A page that is dropped counts as evicted; a hit in a scan counts as a hit.
        AdaptiveReplacementCache y = made(2, 1, 2, 3);
        CHECK.dueText("the counters", Shown.counters(y), "requests 3 hits 0 ghost hits 0 bypassed 0 evictions 1");
        y.setScanLength(2);
        requestAll(y, 1, 2, 3, 4);
        CHECK.dueText("the counters", Shown.counters(y), "requests 7 hits 1 ghost hits 0 bypassed 2 evictions 2");
    }

    private static void promise26HitsIf() {
        AdaptiveReplacementCache x = made(2, 1, 1, 2, 3, 1);
        CHECK.due("hitsIf(1)", x.hitsIf(1), 1);
        CHECK.due("hitsIf(2), as 1 is among the frequent pages", x.hitsIf(2), 2);
        CHECK.due("hitsIf(32)", x.hitsIf(32), 2);
        // Requests for ghosts are no hits, but move the target.
        AdaptiveReplacementCache ghosts = made(32, 10, 20, 30, 20, 40, 30, 30);
        CHECK.due("hitsIf(2)", ghosts.hitsIf(2), 2);
        // The scan length is the one that is set now; the capacity and other calls do not matter.
        AdaptiveReplacementCache scan = made(1, 1, 2, 3, 1, 2, 3, 2, 3);
        CHECK.due("hitsIf(3)", scan.hitsIf(3), 5);
        scan.setScanLength(2);
        CHECK.due("hitsIf(3), of a scan only 1 is a hit", scan.hitsIf(3), 1);
        scan.setScanLength(3);
        CHECK.due("hitsIf(3), 3 alone is bypassed", scan.hitsIf(3), 3);
        scan.remove(3);
        scan.clear();
        scan.setCapacity(5);
        CHECK.due("hitsIf(3)", scan.hitsIf(3), 3);
        // It starts anew each time: the first key of the log does not follow the last one.
        AdaptiveReplacementCache again = made(4, 8, 20, 8, 7);
        again.setScanLength(2);
        CHECK.due("hitsIf(4)", again.hitsIf(4), 1);
        CHECK.due("hitsIf(4) again", again.hitsIf(4), 1);
        // It changes nothing that can be seen, and is the same again, after other ones also.
        AdaptiveReplacementCache same = withAllLists();
        String before = Shown.all(same);
        same.hitsIf(2);
        same.leastRecentHitsIf(2);
        CHECK.dueText("the object after hitsIf", Shown.all(same), before);
        for (int capacity : NO_CAPACITIES) {
            dueNoChange(same, "hitsIf(" + capacity + ")", BAD_ARGUMENT, () -> same.hitsIf(capacity));
        }
    }

    private static void promise26Log() {
        AdaptiveReplacementCache x = made(8, 1);
        for (int i = 0; i < 59; i++) {
            x.request(2);
        }
        CHECK.due("hitsIf(2), sixty requests", x.hitsIf(2), 58);
        x.request(1);
        // The first request for 1 is the 61st from the end now.
        CHECK.due("hitsIf(2), the latest sixty", x.hitsIf(2), 58);
        CHECK.due("leastRecentHitsIf(2), the latest sixty", x.leastRecentHitsIf(2), 58);
        x.request(1);
        CHECK.due("hitsIf(2)", x.hitsIf(2), 58);
        for (int i = 0; i < 300; i++) {
            x.request(3 + i);
        }
        CHECK.due("hitsIf(32)", x.hitsIf(32), 0);
        CHECK.due("leastRecentHitsIf(32)", x.leastRecentHitsIf(32), 0);
        // The run begins with the log, though the request before it is gone.
        AdaptiveReplacementCache y = made(8, 10);
        y.setScanLength(2);
        for (int i = 0; i < 60; i++) {
            y.request(11);
        }
        CHECK.due("hitsIf(4)", y.hitsIf(4), 59);
        // Bypassed requests are in the log; requests that threw are not.
        AdaptiveReplacementCache z = made(8);
        z.setScanLength(2);
        requestAll(z, 10, 11, 12, 11);
        CHECK.dueThrow("request(10000)", BAD_ARGUMENT, () -> z.request(10000));
        CHECK.dueThrow("request(10000)", BAD_ARGUMENT, () -> z.request(10000));
        z.setScanLength(0);
        CHECK.due("hitsIf(4)", z.hitsIf(4), 1);
        CHECK.due("leastRecentHitsIf(4)", z.leastRecentHitsIf(4), 1);
    }

    private static void promise27LeastRecentHitsIf() {
        AdaptiveReplacementCache x = made(5, 1, 2, 3, 1, 4, 2);
        CHECK.due("leastRecentHitsIf(1)", x.leastRecentHitsIf(1), 0);
        CHECK.due("leastRecentHitsIf(2)", x.leastRecentHitsIf(2), 0);
        CHECK.due("leastRecentHitsIf(3), as the hit made 1 the latest", x.leastRecentHitsIf(3), 1);
        CHECK.due("leastRecentHitsIf(4)", x.leastRecentHitsIf(4), 2);
        CHECK.due("leastRecentHitsIf(32)", x.leastRecentHitsIf(32), 2);
        x.setScanLength(2);
        CHECK.due("leastRecentHitsIf(4), scans do not matter", x.leastRecentHitsIf(4), 2);
        x.clear();
        x.setCapacity(1);
        CHECK.due("leastRecentHitsIf(4)", x.leastRecentHitsIf(4), 2);
        // A page requested often is evicted like any other.
        AdaptiveReplacementCache often = made(2, 1, 1, 2, 3, 1);
        CHECK.due("leastRecentHitsIf(2)", often.leastRecentHitsIf(2), 1);
        CHECK.due("leastRecentHitsIf(1)", often.leastRecentHitsIf(1), 1);
        for (int capacity : NO_CAPACITIES) {
            dueNoChange(often, "leastRecentHitsIf(" + capacity + ")", BAD_ARGUMENT,
                    () -> often.leastRecentHitsIf(capacity));
        }
        AdaptiveReplacementCache round = made(8);
        for (int i = 0; i < 66; i++) {
            round.request(i % 33);
        }
        CHECK.due("leastRecentHitsIf(32), 33 keys in turn", round.leastRecentHitsIf(32), 0);
    }
}
