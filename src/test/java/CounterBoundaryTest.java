/** The boundary cases of the counters and of what would have been (promises 21 to 27): a test for each sentence. */
public final class CounterBoundaryTest extends TestTools {
    private static final int FAR = 5000;

    public static void main(String[] args) {
        makeEach(
                CounterBoundaryTest::requestsCounted,
                CounterBoundaryTest::hitsCounted,
                CounterBoundaryTest::ghostHitsCounted,
                CounterBoundaryTest::bypassedCounted,
                CounterBoundaryTest::evictionsCounted,
                CounterBoundaryTest::otherCallsCountNothing,
                CounterBoundaryTest::latestSixty,
                CounterBoundaryTest::fewerThanSixty,
                CounterBoundaryTest::whatIsInTheLog,
                CounterBoundaryTest::newCache,
                CounterBoundaryTest::nothingElse,
                CounterBoundaryTest::givenCapacity,
                CounterBoundaryTest::scanLengthNow,
                CounterBoundaryTest::hitsInScans,
                CounterBoundaryTest::capacitiesOfHitsIf,
                CounterBoundaryTest::capacityOfLeastRecent,
                CounterBoundaryTest::latestRequestLongestAgo,
                CounterBoundaryTest::scansDoNotMatter,
                CounterBoundaryTest::capacitiesOfLeastRecentHitsIf,
                CounterBoundaryTest::refusedCalls);
    }

    /** A request of each kind: for a recent, frequent page, recent, frequent ghost, a key in no list, one bypassed. */
    private static void dueEachKind(String name, int[] counts) {
        for (int kind = RECENT; kind <= BYPASSED; kind++) {
            AdaptiveReplacementCache x = Given.lists(3, 1, "recent 10 | frequent 20 | recent ghosts 30 | frequent ghosts 40");
            if (kind == BYPASSED) {
                x.setScanLength(2);
                x.request(10);
            }
            int before = counter(x, name);
            CHECK.due("request of the kind " + kind, x.request(kind == BYPASSED ? 11 : 10 * kind), kind);
            CHECK.due(name + "() by a request of the kind " + kind, counter(x, name) - before, counts[kind]);
        }
    }

    private static int counter(AdaptiveReplacementCache x, String name) {
        switch (name) {
            case "requests":
                return x.requests();
            case "hits":
                return x.hits();
            case "ghostHits":
                return x.ghostHits();
            case "bypassed":
                return x.bypassed();
            default:
                return x.evictions();
        }
    }

    private static void requestsCounted() {
        CHECK.words("Returns how many requests there were; those that threw do not count.");
        CHECK.due("requests() of a new object", new AdaptiveReplacementCache().requests(), 0);
        dueEachKind("requests", new int[] {0, 1, 1, 1, 1, 1, 1});
        AdaptiveReplacementCache x = made(4, 0, 9999);
        for (int key : NO_KEYS) {
            CHECK.dueThrow("request(" + key + ")", BAD_ARGUMENT, () -> x.request(key));
            CHECK.due("requests() after request(" + key + ")", x.requests(), 2);
        }
    }

    private static void hitsCounted() {
        CHECK.words("Returns how many requests were hits: their outcome was RECENT or FREQUENT.");
        CHECK.due("hits() of a new object", new AdaptiveReplacementCache().hits(), 0);
        dueEachKind("hits", new int[] {0, 1, 1, 0, 0, 0, 0});
    }

    private static void ghostHitsCounted() {
        CHECK.words("Returns how many requests were for ghosts: their outcome was RECENT_GHOST or FREQUENT_GHOST.");
        CHECK.due("ghostHits() of a new object", new AdaptiveReplacementCache().ghostHits(), 0);
        dueEachKind("ghostHits", new int[] {0, 0, 0, 1, 1, 0, 0});
        // In a scan a ghost is bypassed.
        AdaptiveReplacementCache x = Given.lists(3, 1, "recent 10 | frequent 20 | recent ghosts 11 | frequent ghosts 12");
        x.setScanLength(2);
        int before = x.ghostHits();
        int bypassed = x.bypassed();
        requestAll(x, 10, 11, 12);
        CHECK.due("ghostHits() by a scan", x.ghostHits() - before, 0);
        CHECK.due("bypassed() by a scan", x.bypassed() - bypassed, 2);
    }

    private static void bypassedCounted() {
        CHECK.words("Returns how many requests had the outcome BYPASSED.");
        CHECK.due("bypassed() of a new object", new AdaptiveReplacementCache().bypassed(), 0);
        dueEachKind("bypassed", new int[] {0, 0, 0, 0, 0, 0, 1});
        AdaptiveReplacementCache x = made(4, 2);
        x.setScanLength(2);
        // A hit in a scan is not bypassed.
        requestAll(x, 1, 2, 3);
        CHECK.due("bypassed()", x.bypassed(), 1);
        CHECK.due("hits()", x.hits(), 1);
    }

    private static void evictionsCounted() {
        CHECK.words("Returns how many pages were evicted so far, by requests and by changes of the capacity.");
        CHECK.due("evictions() of a new object", new AdaptiveReplacementCache().evictions(), 0);
        // Not full: none; full: by misses and ghosts.
        dueEachKind("evictions", new int[] {0, 0, 0, 0, 0, 0, 0});
        for (int key : new int[] {30, 40, 50}) {
            AdaptiveReplacementCache x = Given.lists(2, 1, "recent 10 | frequent 20 | recent ghosts 30 | frequent ghosts 40");
            int before = x.evictions();
            x.request(key);
            CHECK.due("evictions() by request(" + key + ") in a full cache", x.evictions() - before, 1);
        }
        // A page that is dropped counts; ghosts that are dropped, and removed or cleared pages don't.
        AdaptiveReplacementCache x = made(3, 1, 3, 5, 7);
        CHECK.due("evictions() after a page was dropped", x.evictions(), 1);
        x.setCapacity(1);
        CHECK.due("evictions() after setCapacity(1)", x.evictions(), 3);
        x.remove(7);
        x.request(9);
        x.clear();
        CHECK.due("evictions() after remove and clear", x.evictions(), 3);
        AdaptiveReplacementCache ghosts = Given.lists(3, 0, "recent 10 | frequent 1 | recent ghosts 7 6 | frequent ghosts 9 8");
        int before = ghosts.evictions();
        ghosts.request(20);
        ghosts.remove(20);
        ghosts.remove(10);
        ghosts.setCapacity(1);
        CHECK.due("evictions() after ghosts were dropped", ghosts.evictions(), before);
    }

    private static void otherCallsCountNothing() {
        CHECK.words("counters");
        AdaptiveReplacementCache x = Given.lists(3, 1, "recent 10 | frequent 20 | recent ghosts 30 | frequent ghosts 40");
        String counters = Shown.counters(x);
        x.remove(10);
        x.clear();
        x.setCapacity(32);
        x.setScanLength(2);
        x.whereIs(20);
        x.victim();
        x.hitsIf(1);
        x.leastRecentHitsIf(1);
        CHECK.dueThrow("recentAt(0)", BAD_PLACE, () -> x.recentAt(0));
        CHECK.dueText("the counters", Shown.counters(x), counters);
    }

    /** A request for FAR, others for 1, and FAR again: as many in all as told. */
    private static AdaptiveReplacementCache withFarEnds(int requests) {
        AdaptiveReplacementCache x = made(8, FAR);
        for (int i = 2; i < requests; i++) {
            x.request(1);
        }
        x.request(FAR);
        CHECK.due("requests()", x.requests(), requests);
        return x;
    }

    private static void latestSixty() {
        CHECK.words("the log has the keys of the latest 60 requests");
        // With 60 requests the first FAR makes the second one a hit; with 61 it is forgotten, and 1 hits once more.
        for (int requests = 60; requests <= 64; requests++) {
            AdaptiveReplacementCache x = withFarEnds(requests);
            CHECK.due("hitsIf(2) after " + requests + " requests", x.hitsIf(2), 58);
            CHECK.due("leastRecentHitsIf(2) after " + requests + " requests", x.leastRecentHitsIf(2), 58);
        }
        // Between the two a scan, which hits nothing: the second one hits if the first one is in the log.
        for (int requests = 58; requests <= 64; requests++) {
            AdaptiveReplacementCache x = made(8, FAR);
            x.setScanLength(2);
            for (int key = 1; key <= requests - 2; key++) {
                x.request(key);
            }
            x.request(FAR);
            CHECK.due("hitsIf(3) after " + requests + " requests", x.hitsIf(3), requests <= 60 ? 1 : 0);
        }
        // Long after, still the latest ones: 7 up to request 340, then a key that is new each time.
        AdaptiveReplacementCache x = made(8);
        for (int i = 1; i <= 410; i++) {
            x.request(i <= 340 ? 7 : i);
            if (i % 50 == 0 || i >= 390) {
                int sevens = Math.max(0, Math.min(i, 340) - Math.max(0, i - 60));
                int hits = Math.max(0, sevens - 1);
                CHECK.due("hitsIf(1) after " + i + " requests", x.hitsIf(1), hits);
                CHECK.due("leastRecentHitsIf(1) after " + i + " requests", x.leastRecentHitsIf(1), hits);
            }
        }
    }

    private static void fewerThanSixty() {
        CHECK.words("of all if there were fewer");
        AdaptiveReplacementCache none = new AdaptiveReplacementCache();
        AdaptiveReplacementCache x = new AdaptiveReplacementCache();
        for (int capacity = 1; capacity <= 32; capacity++) {
            CHECK.due("hitsIf(" + capacity + ") of a new object", none.hitsIf(capacity), 0);
            CHECK.due("leastRecentHitsIf(" + capacity + ") of a new object", none.leastRecentHitsIf(capacity), 0);
        }
        for (int requests = 1; requests <= 60; requests++) {
            x.request(9);
            CHECK.due("hitsIf(1) after " + requests + " requests", x.hitsIf(1), requests - 1);
            CHECK.due("leastRecentHitsIf(1) after " + requests + " requests", x.leastRecentHitsIf(1), requests - 1);
        }
        CHECK.due("hitsIf(2) after 59 requests", withFarEnds(59).hitsIf(2), 57);
        CHECK.due("leastRecentHitsIf(2) after 59 requests", withFarEnds(59).leastRecentHitsIf(2), 57);
    }

    private static void whatIsInTheLog() {
        CHECK.words("the keys of the latest 60 requests");
        // Bypassed requests and hits are in it; refused ones, removed keys and places asked for are not.
        AdaptiveReplacementCache x = made(4);
        x.setScanLength(2);
        requestAll(x, 20, 21, 22, 21);
        x.setScanLength(0);
        CHECK.due("hitsIf(4)", x.hitsIf(4), 1);
        CHECK.due("leastRecentHitsIf(4)", x.leastRecentHitsIf(4), 1);
        for (int key : NO_KEYS) {
            CHECK.dueThrow("request(" + key + ")", BAD_ARGUMENT, () -> x.request(key));
            CHECK.dueThrow("request(" + key + ")", BAD_ARGUMENT, () -> x.request(key));
        }
        x.whereIs(5);
        x.remove(5);
        x.whereIs(5);
        x.remove(5);
        CHECK.due("hitsIf(4)", x.hitsIf(4), 1);
        CHECK.due("leastRecentHitsIf(4)", x.leastRecentHitsIf(4), 1);
        // Refused requests push none out of it.
        AdaptiveReplacementCache full = withFarEnds(60);
        for (int i = 0; i < 3; i++) {
            CHECK.dueThrow("request(10000)", BAD_ARGUMENT, () -> full.request(10000));
        }
        full.request(FAR);
        CHECK.due("hitsIf(2)", full.hitsIf(2), 58);
    }

    private static void newCache() {
        CHECK.words("if they had come, in their order and nothing else, to a new cache");
        // Pages that are in the cache, its ghosts and its target do not matter.
        AdaptiveReplacementCache x = Given.lists(8, 5, "recent 20 10 | frequent 2 1 | recent ghosts 50 40 | frequent ghosts 70");
        for (int i = 0; i < 60; i++) {
            x.request(7);
        }
        requestAll(x, 20, 2, 50, 70);
        CHECK.due("hitsIf(8)", x.hitsIf(8), 55);
        CHECK.due("leastRecentHitsIf(8)", x.leastRecentHitsIf(8), 55);
        // The run is a new one: the first key in the log belongs to no scan, though it followed the one before.
        AdaptiveReplacementCache first = made(8, 10);
        first.setScanLength(2);
        for (int i = 0; i < 60; i++) {
            first.request(11);
        }
        CHECK.due("hitsIf(8) with 11 sixty times", first.hitsIf(8), 59);
        // And though it follows the last one.
        AdaptiveReplacementCache again = made(4, 8, 20, 8, 7);
        again.setScanLength(2);
        for (int times = 0; times < 3; times++) {
            CHECK.due("hitsIf(4)", again.hitsIf(4), 1);
        }
        // In their order: 1 is requested again before 2 and 3 come; the other way round it is not there any more.
        CHECK.due("hitsIf(2)", made(8, 1, 1, 2, 3, 1).hitsIf(2), 2);
        CHECK.due("hitsIf(2) the other way round", made(8, 1, 3, 2, 1, 1).hitsIf(2), 1);
    }

    private static void nothingElse() {
        CHECK.words("and nothing else");
        AdaptiveReplacementCache x = made(1, 1);
        x.remove(1);
        x.request(3);
        x.clear();
        x.setCapacity(32);
        x.request(1);
        x.setCapacity(1);
        x.request(3);
        CHECK.due("hitsIf(2)", x.hitsIf(2), 2);
        CHECK.due("leastRecentHitsIf(2)", x.leastRecentHitsIf(2), 2);
        CHECK.due("hits()", x.hits(), 0);
    }

    private static void givenCapacity() {
        CHECK.words("with a given capacity");
        // So many other keys between two requests for FAR: it stays if they and FAR are as many as the capacity.
        for (int others = 1; others <= 33; others++) {
            AdaptiveReplacementCache x = made(1, FAR);
            for (int i = 1; i <= others; i++) {
                x.request(2 * i);
            }
            x.request(FAR);
            for (int capacity = 1; capacity <= 32; capacity++) {
                int hits = others < capacity ? 1 : 0;
                CHECK.due("hitsIf(" + capacity + ") with " + others + " other keys", x.hitsIf(capacity), hits);
            }
        }
        // A small one after a large one, and the other way round.
        AdaptiveReplacementCache x = made(8, 1, 3, 5, 1, 3, 5);
        CHECK.due("hitsIf(32)", x.hitsIf(32), 3);
        CHECK.due("hitsIf(1)", x.hitsIf(1), 0);
        CHECK.due("hitsIf(2)", x.hitsIf(2), 0);
        CHECK.due("hitsIf(3)", x.hitsIf(3), 3);
        CHECK.due("capacity()", x.capacity(), 8);
    }

    private static void scanLengthNow() {
        CHECK.words("and the scan length as it is now");
        AdaptiveReplacementCache x = made(8);
        x.setScanLength(2);
        for (int round = 0; round < 2; round++) {
            for (int key = 1; key <= 20; key++) {
                x.request(key);
            }
        }
        x.setScanLength(0);
        CHECK.due("hitsIf(20)", x.hitsIf(20), 20);
        for (int length = 2; length <= 20; length++) {
            x.setScanLength(length);
            CHECK.due("hitsIf(20) with scan length " + length, x.hitsIf(20), length - 1);
        }
        x.setScanLength(0);
        CHECK.due("hitsIf(20)", x.hitsIf(20), 20);
        CHECK.due("hitsIf(19)", x.hitsIf(19), 0);
    }

    private static void hitsInScans() {
        CHECK.words("Returns how many of the requests in the log would have been hits");
        // In a scan a hit on a page counts, and leaves it where it is: 2 is dropped as the oldest recent page.
        AdaptiveReplacementCache x = made(8, 2, 1, 2, 5, 7, 2);
        CHECK.due("hitsIf(2)", x.hitsIf(2), 2);
        x.setScanLength(2);
        CHECK.due("hitsIf(2) with scans", x.hitsIf(2), 1);
        // Ghosts, misses and bypassed ones are no hits.
        CHECK.due("hitsIf(2) with a ghost", made(8, 1, 1, 3, 5, 3).hitsIf(2), 1);
        CHECK.due("hitsIf(1) without any", made(8, 1, 3, 1, 3).hitsIf(1), 0);
    }

    private static void capacitiesOfHitsIf() {
        CHECK.words("hitsIf throws IllegalArgumentException if capacity is out of range");
        AdaptiveReplacementCache x = made(8, 4, 4);
        for (int capacity : NO_CAPACITIES) {
            dueNoChange(x, "hitsIf(" + capacity + ")", BAD_ARGUMENT, () -> x.hitsIf(capacity));
            CHECK.dueThrow("hitsIf(" + capacity + ") of a new object", BAD_ARGUMENT,
                    () -> new AdaptiveReplacementCache().hitsIf(capacity));
        }
        CHECK.due("hitsIf(1)", x.hitsIf(1), 1);
        CHECK.due("hitsIf(32)", x.hitsIf(32), 1);
    }

    private static void capacityOfLeastRecent() {
        CHECK.words("to an empty cache that has as many pages as the capacity allows");
        for (int others = 1; others <= 33; others++) {
            AdaptiveReplacementCache x = made(1, FAR);
            for (int i = 1; i <= others; i++) {
                x.request(2 * i);
            }
            x.request(FAR);
            for (int capacity = 1; capacity <= 32; capacity++) {
                int hits = others < capacity ? 1 : 0;
                CHECK.due("leastRecentHitsIf(" + capacity + ") with " + others + " other keys",
                        x.leastRecentHitsIf(capacity), hits);
            }
        }
        // What the cache has and what was asked before do not matter.
        AdaptiveReplacementCache x = made(8, 1, 3, 1, 3);
        for (int times = 0; times < 3; times++) {
            CHECK.due("leastRecentHitsIf(2)", x.leastRecentHitsIf(2), 2);
            CHECK.due("leastRecentHitsIf(1)", x.leastRecentHitsIf(1), 0);
        }
    }

    private static void latestRequestLongestAgo() {
        CHECK.words("and, when it is full, evicts the page whose latest request is the longest ago");
        // The hit of 1 keeps it; 3 goes.
        CHECK.due("leastRecentHitsIf(2), 1 stays", made(8, 1, 3, 1, 5, 1).leastRecentHitsIf(2), 2);
        CHECK.due("leastRecentHitsIf(2), 3 goes", made(8, 1, 3, 1, 5, 3).leastRecentHitsIf(2), 1);
        // A hit of the latest page changes nothing.
        CHECK.due("leastRecentHitsIf(2), 1 goes", made(8, 1, 3, 3, 5, 1).leastRecentHitsIf(2), 1);
        CHECK.due("leastRecentHitsIf(2), 3 stays", made(8, 1, 3, 3, 5, 3).leastRecentHitsIf(2), 2);
        // A page that was requested often goes like any other one.
        CHECK.due("leastRecentHitsIf(2)", made(8, 1, 1, 1, 3, 5, 1).leastRecentHitsIf(2), 2);
        // Not full, none goes; a hit in a full cache evicts none.
        CHECK.due("leastRecentHitsIf(3)", made(8, 1, 3, 5, 1, 3, 5, 5, 3, 1).leastRecentHitsIf(3), 6);
        CHECK.due("leastRecentHitsIf(1)", made(8, 1, 1, 3, 3, 1).leastRecentHitsIf(1), 2);
    }

    private static void scansDoNotMatter() {
        CHECK.words("(Scans do not matter there.)");
        AdaptiveReplacementCache x = made(8);
        x.setScanLength(2);
        requestAll(x, 1, 2, 3, 4, 1, 2, 3, 4);
        for (int length : new int[] {2, 3, 20, 0}) {
            x.setScanLength(length);
            CHECK.due("leastRecentHitsIf(4) with scan length " + length, x.leastRecentHitsIf(4), 4);
            CHECK.due("leastRecentHitsIf(3) with scan length " + length, x.leastRecentHitsIf(3), 0);
        }
    }

    private static void capacitiesOfLeastRecentHitsIf() {
        CHECK.words("leastRecentHitsIf throws IllegalArgumentException if capacity is out of range");
        AdaptiveReplacementCache x = made(8, 4, 4);
        for (int capacity : NO_CAPACITIES) {
            dueNoChange(x, "leastRecentHitsIf(" + capacity + ")", BAD_ARGUMENT, () -> x.leastRecentHitsIf(capacity));
            CHECK.dueThrow("leastRecentHitsIf(" + capacity + ") of a new object", BAD_ARGUMENT,
                    () -> new AdaptiveReplacementCache().leastRecentHitsIf(capacity));
        }
        CHECK.due("leastRecentHitsIf(1)", x.leastRecentHitsIf(1), 1);
        CHECK.due("leastRecentHitsIf(32)", x.leastRecentHitsIf(32), 1);
    }

    /** One object gets refused calls, another one does not; then and in all that follows they answer the same. */
    private static void refusedCalls() {
        CHECK.words("A call that throws changes nothing.");
        String[] names = {"request", "remove", "whereIs", "setCapacity", "setScanLength", "hitsIf", "leastRecentHitsIf",
            "recentAt", "frequentAt", "recentGhostAt", "frequentGhostAt"};
        int[] wrong = {-1, 10000, Integer.MIN_VALUE, Integer.MAX_VALUE};
        for (String name : names) {
            for (int argument : wrong) {
                dueRefused(name, argument);
            }
        }
    }

    private static void dueRefused(String name, int argument) {
        AdaptiveReplacementCache x = inUse();
        AdaptiveReplacementCache twin = inUse();
        String call = name + "(" + argument + ")";
        CHECK.dueThrow(call, name.endsWith("At") ? BAD_PLACE : BAD_ARGUMENT, () -> call(x, name, argument));
        CHECK.dueText("the object after " + call, Shown.all(x), Shown.all(twin));
        // 41 goes on with the run; 10 begins a scan; 0 and 9999 lie beside wrong keys.
        for (int key : new int[] {41, 9, 10, 11, 12, 13, 70, 0, 9999, 50}) {
            CHECK.due("request(" + key + ") after " + call, x.request(key), twin.request(key));
            CHECK.dueText("the object after " + call + " and request(" + key + ")", Shown.all(x), Shown.all(twin));
        }
        CHECK.due("setScanLength(0) after " + call, x.setScanLength(0), twin.setScanLength(0));
    }

    private static AdaptiveReplacementCache inUse() {
        AdaptiveReplacementCache x = Given.lists(4, 2, "recent 12 10 | frequent 40 13 | recent ghosts 15 | frequent ghosts 70");
        x.setScanLength(3);
        x.request(40);
        return x;
    }

    private static void call(AdaptiveReplacementCache x, String name, int argument) {
        switch (name) {
            case "request":
                x.request(argument);
                break;
            case "remove":
                x.remove(argument);
                break;
            case "whereIs":
                x.whereIs(argument);
                break;
            case "setCapacity":
                x.setCapacity(argument);
                break;
            case "setScanLength":
                x.setScanLength(argument);
                break;
            case "hitsIf":
                x.hitsIf(argument);
                break;
            case "leastRecentHitsIf":
                x.leastRecentHitsIf(argument);
                break;
            case "recentAt":
                x.recentAt(argument);
                break;
            case "frequentAt":
                x.frequentAt(argument);
                break;
            case "recentGhostAt":
                x.recentGhostAt(argument);
                break;
            default:
                x.frequentGhostAt(argument);
                break;
        }
    }
}
