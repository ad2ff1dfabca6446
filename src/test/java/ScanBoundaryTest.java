/** The boundary cases that the document names for runs and scans: a test for each sentence. */
public final class ScanBoundaryTest extends TestTools {
    public static void main(String[] args) {
        makeEach(
                ScanBoundaryTest::runAfterNextKey,
                ScanBoundaryTest::runAfterFirstRequest,
                ScanBoundaryTest::onlyRequestsChangeRun,
                ScanBoundaryTest::scanLengthZero,
                ScanBoundaryTest::runAtScanLength,
                ScanBoundaryTest::scanChangesNothing,
                ScanBoundaryTest::scanInEmptyCache,
                ScanBoundaryTest::scanOutcomes,
                ScanBoundaryTest::firstScanLength,
                ScanBoundaryTest::scanLengths,
                ScanBoundaryTest::noScanLengths,
                ScanBoundaryTest::scanLengthAndRun,
                ScanBoundaryTest::scanLengthBefore,
                ScanBoundaryTest::runWithoutRequest);
    }

    private static void dueRun(AdaptiveReplacementCache x, int run) {
        CHECK.due("run()", x.run(), run);
    }

    private static void runAfterNextKey() {
        CHECK.words("After each request the run is 1 greater than before if its key is 1 greater than the key of the"
                + " request before, otherwise it is 1.");
        // The key of the request before, the key, and the run after it.
        int[][] cases = {{5, 6, 2}, {5, 5, 1}, {5, 7, 1}, {5, 4, 1}, {5, 3, 1}, {0, 1, 2}, {0, 0, 1}, {1, 0, 1},
            {9998, 9999, 2}, {9999, 9999, 1}, {9999, 9998, 1}, {9999, 0, 1}, {0, 9999, 1}};
        for (int[] one : cases) {
            AdaptiveReplacementCache x = made(4, one[0]);
            x.request(one[1]);
            CHECK.due("run() after " + one[0] + ", " + one[1], x.run(), one[2]);
        }
        AdaptiveReplacementCache x = made(4);
        int[] keys = {7, 8, 9, 10, 10, 11, 12, 11, 12, 14, 15, 16};
        int[] runs = {1, 2, 3, 4, 1, 2, 3, 1, 2, 1, 2, 3};
        for (int i = 0; i < keys.length; i++) {
            x.request(keys[i]);
            dueRun(x, runs[i]);
        }
        // The key of a request counts whatever became of the request: a hit, a ghost, a miss, bypassed.
        AdaptiveReplacementCache y = Given.lists(4, 1, "recent 10 | frequent 11 | recent ghosts 12 | frequent ghosts 13");
        requestAll(y, 10, 11, 12, 13, 14);
        dueRun(y, 5);
        y.setScanLength(2);
        requestAll(y, 15, 16);
        dueRun(y, 7);
    }

    private static void runAfterFirstRequest() {
        CHECK.words("(It is 1 after the first request");
        for (int key : new int[] {0, 1, 2, 9998, 9999}) {
            AdaptiveReplacementCache x = new AdaptiveReplacementCache();
            x.request(key);
            dueRun(x, 1);
        }
        AdaptiveReplacementCache scan = new AdaptiveReplacementCache();
        scan.setScanLength(2);
        CHECK.due("request(0), the first one", scan.request(0), MISS);
        CHECK.due("request(1), the second one", scan.request(1), BYPASSED);
    }

    private static void onlyRequestsChangeRun() {
        CHECK.words("only requests change it");
        AdaptiveReplacementCache x = made(4, 20, 21);
        x.remove(22);
        x.remove(21);
        x.whereIs(22);
        x.victim();
        x.recentAt(0);
        x.setCapacity(1);
        x.setCapacity(32);
        x.setScanLength(20);
        x.hitsIf(3);
        x.leastRecentHitsIf(3);
        x.clear();
        for (int key : NO_KEYS) {
            CHECK.dueThrow("request(" + key + ")", BAD_ARGUMENT, () -> x.request(key));
        }
        dueRun(x, 2);
        x.request(22);
        dueRun(x, 3);
        x.clear();
        x.remove(23);
        x.request(24);
        dueRun(x, 1);
        // Refused keys are no keys of a request before, though 0 follows -1 and 9999 lies before 10000.
        AdaptiveReplacementCache zero = made(4, 9999);
        CHECK.dueThrow("request(10000)", BAD_ARGUMENT, () -> zero.request(10000));
        CHECK.dueThrow("request(-1)", BAD_ARGUMENT, () -> zero.request(-1));
        zero.request(0);
        dueRun(zero, 1);
    }

    private static void scanLengthZero() {
        CHECK.words("A request belongs to a scan if the scan length is not 0");
        AdaptiveReplacementCache x = made(32);
        for (int key = 0; key < 40; key++) {
            CHECK.due("request(" + key + ")", x.request(key), MISS);
        }
        dueRun(x, 40);
        CHECK.due("bypassed()", x.bypassed(), 0);
        AdaptiveReplacementCache off = made(4);
        off.setScanLength(2);
        requestAll(off, 1, 2, 3);
        off.setScanLength(0);
        CHECK.due("request(4) after setScanLength(0)", off.request(4), MISS);
    }

    private static void runAtScanLength() {
        CHECK.words("and the run, this request included, is at least the scan length");
        for (int length = 2; length <= 20; length++) {
            AdaptiveReplacementCache x = made(32);
            x.setScanLength(length);
            for (int run = 1; run <= length + 2; run++) {
                int outcome = run < length ? MISS : BYPASSED;
                CHECK.due("request with run " + run + " and scan length " + length, x.request(100 + run), outcome);
            }
            // A key that does not follow ends the scan; the run must grow again.
            for (int run = 1; run <= length; run++) {
                int outcome = run < length ? MISS : BYPASSED;
                CHECK.due("request with run " + run + " after a scan", x.request(200 + run), outcome);
            }
        }
    }

    private static void scanChangesNothing() {
        CHECK.words("A request that belongs to a scan changes no list and no target");
        // Not full, full, and with as many recent ghosts and keys as there may be: a miss would move something.
        dueScanOver(Given.lists(8, 2, "recent 12 10 | frequent 14 13 | recent ghosts 15 | frequent ghosts 16"));
        dueScanOver(Given.lists(4, 2, "recent 12 10 | frequent 14 13 | recent ghosts 15 | frequent ghosts 16"));
        dueScanOver(Given.lists(4, 2, "recent 12 10 | frequent 14 13 | recent ghosts 30 15 | frequent ghosts 16 31"));
    }

    /** After a hit of 10, a scan from 11 to 17 meets a key in each list, and keys in none. */
    private static void dueScanOver(AdaptiveReplacementCache x) {
        x.setScanLength(2);
        CHECK.due("request(10)", x.request(10), RECENT);
        String lists = Shown.lists(x);
        int evictions = x.evictions();
        int[] outcomes = {BYPASSED, RECENT, FREQUENT, FREQUENT, BYPASSED, BYPASSED, BYPASSED};
        for (int i = 0; i < outcomes.length; i++) {
            dueRequest(x, 11 + i, outcomes[i], lists);
            CHECK.due("target()", x.target(), 2);
            CHECK.due("evictions()", x.evictions(), evictions);
            CHECK.due("whereIs(11)", x.whereIs(11), NOWHERE);
        }
    }

    private static void scanInEmptyCache() {
        CHECK.words("otherwise it is bypassed");
        AdaptiveReplacementCache x = made(1, 4);
        x.clear();
        x.setScanLength(2);
        dueRequest(x, 5, BYPASSED, EMPTY);
        dueRequest(x, 6, BYPASSED, EMPTY);
        dueRequest(x, 6, MISS, "recent 6 | frequent | recent ghosts | frequent ghosts");
    }

    private static void scanOutcomes() {
        CHECK.words("it is a hit if its key is in the cache, otherwise it is bypassed");
        AdaptiveReplacementCache x = Given.lists(4, 2, "recent 12 10 | frequent 14 13 | recent ghosts 15 | frequent ghosts 16");
        x.setScanLength(2);
        x.request(11);
        CHECK.dueText("the lists", Shown.lists(x),
                "recent 11 12 10 | frequent 14 | recent ghosts 15 | frequent ghosts 13 16");
        int[] keys = {12, 13, 14, 15, 16, 17};
        int[] outcomes = {RECENT, BYPASSED, FREQUENT, BYPASSED, BYPASSED, BYPASSED};
        for (int i = 0; i < keys.length; i++) {
            int requests = x.requests();
            int hits = x.hits();
            int ghostHits = x.ghostHits();
            int bypassed = x.bypassed();
            boolean hit = outcomes[i] != BYPASSED;
            CHECK.due("request(" + keys[i] + ")", x.request(keys[i]), outcomes[i]);
            CHECK.due("requests() by it", x.requests() - requests, 1);
            CHECK.due("hits() by it", x.hits() - hits, hit ? 1 : 0);
            CHECK.due("ghostHits() by it", x.ghostHits() - ghostHits, 0);
            CHECK.due("bypassed() by it", x.bypassed() - bypassed, hit ? 0 : 1);
        }
    }

    private static void firstScanLength() {
        CHECK.words("The scan length is 0 at first.");
        AdaptiveReplacementCache x = new AdaptiveReplacementCache();
        for (int key = 500; key < 530; key++) {
            CHECK.due("request(" + key + ")", x.request(key), MISS);
        }
        CHECK.due("setScanLength(2)", x.setScanLength(2), 0);
    }

    private static void scanLengths() {
        CHECK.words("2 to 20; or 0, then no request belongs to a scan");
        AdaptiveReplacementCache x = made(32);
        int before = 0;
        for (int length : new int[] {2, 20, 0, 0, 20, 20, 2, 2, 3, 19, 0}) {
            CHECK.due("setScanLength(" + length + ")", x.setScanLength(length), before);
            before = length;
        }
        requestAll(x, 1, 2);
        CHECK.due("request(3)", x.request(3), MISS);
    }

    private static void noScanLengths() {
        CHECK.words("Throws IllegalArgumentException if length is out of range");
        for (int length : NO_SCAN_LENGTHS) {
            AdaptiveReplacementCache x = made(4, 1, 2);
            x.setScanLength(3);
            dueNoChange(x, "setScanLength(" + length + ")", BAD_ARGUMENT, () -> x.setScanLength(length));
            CHECK.due("request(3)", x.request(3), BYPASSED);
            CHECK.due("setScanLength(0)", x.setScanLength(0), 3);
            // Nor may a refused length begin scans where there are none.
            dueNoChange(x, "setScanLength(" + length + ")", BAD_ARGUMENT, () -> x.setScanLength(length));
            CHECK.due("request(4)", x.request(4), MISS);
        }
    }

    private static void scanLengthAndRun() {
        CHECK.words("Changes the scan length. The run stays as it is.");
        AdaptiveReplacementCache x = made(32, 1, 2, 3, 4);
        for (int length : new int[] {5, 4, 2, 0, 20}) {
            x.setScanLength(length);
            dueRun(x, 4);
        }
        // The next request has the run 5: it belongs to a scan if the length is 5, not if it is 6.
        x.setScanLength(6);
        CHECK.due("request(5), scan length 6", x.request(5), MISS);
        x.setScanLength(6);
        CHECK.due("request(6), scan length 6", x.request(6), BYPASSED);
        x.setScanLength(8);
        CHECK.due("request(7), scan length 8", x.request(7), MISS);
    }

    private static void scanLengthBefore() {
        CHECK.words("Returns the scan length before.");
        AdaptiveReplacementCache x = new AdaptiveReplacementCache();
        CHECK.due("setScanLength(0)", x.setScanLength(0), 0);
        CHECK.due("setScanLength(20)", x.setScanLength(20), 0);
        CHECK.due("setScanLength(20)", x.setScanLength(20), 20);
        x.clear();
        x.setCapacity(1);
        requestAll(x, 4, 5);
        x.hitsIf(32);
        CHECK.due("setScanLength(2)", x.setScanLength(2), 20);
        CHECK.due("setScanLength(0)", x.setScanLength(0), 2);
    }

    private static void runWithoutRequest() {
        CHECK.words("Returns the run; 0 if there was no request.");
        AdaptiveReplacementCache x = new AdaptiveReplacementCache();
        dueRun(x, 0);
        x.remove(0);
        x.whereIs(0);
        x.clear();
        x.setCapacity(1);
        x.setScanLength(2);
        x.hitsIf(1);
        x.leastRecentHitsIf(1);
        for (int key : NO_KEYS) {
            CHECK.dueThrow("request(" + key + ")", BAD_ARGUMENT, () -> x.request(key));
        }
        dueRun(x, 0);
        CHECK.due("request(0)", x.request(0), MISS);
        dueRun(x, 1);
    }
}
