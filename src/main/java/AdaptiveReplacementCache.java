/**
 * An adaptive replacement cache of pages: a list of pages that were requested once lately, a list of
 * pages that were requested more often, two lists of keys of pages that have left them (ghosts), and
 * a target for the length of the first list that learns from requests for ghosts.
 */
public final class AdaptiveReplacementCache {
    public static final int NONE = -1;
    public static final int NOWHERE = 0;
    public static final int RECENT = 1;
    public static final int FREQUENT = 2;
    public static final int RECENT_GHOST = 3;
    public static final int FREQUENT_GHOST = 4;
    public static final int MISS = 5;
    public static final int BYPASSED = 6;

    private static final int LARGEST_KEY = 9999;
    private static final int LARGEST_CAPACITY = 32;
    private static final int FIRST_CAPACITY = 8;
    private static final int SHORTEST_SCAN = 2;
    private static final int LONGEST_SCAN = 20;
    private static final int LOG_LENGTH = 60;

    // All four lists together have at most twice the largest capacity of keys, so each of them fits,
    // also in the midst of a change of the capacity; and the log, being shorter, fits too.
    private static final int LONGEST_LIST = 2 * LARGEST_CAPACITY;

    private final Cache cache = new Cache();
    private final KeyList log = new KeyList();
    private int requests;
    private int hits;
    private int ghostHits;
    private int bypassed;

    // Kept from call to call, so that asking what would have been makes no new objects.
    private final Cache trial = new Cache();
    private final KeyList latestPages = new KeyList();

    public AdaptiveReplacementCache() {
    }

    // ---- requests

    public int request(int key) throws IllegalArgumentException {
        checkKey(key);
        addToLog(key);
        int outcome = cache.serve(key);
        count(outcome);
        return outcome;
    }

    public int remove(int key) throws IllegalArgumentException {
        checkKey(key);
        return cache.forget(key);
    }

    public int clear() {
        return cache.forgetAll();
    }

    // ---- settings

    public int setCapacity(int capacity) throws IllegalArgumentException {
        checkCapacity(capacity);
        return cache.changeCapacity(capacity);
    }

    public int capacity() {
        return cache.capacity;
    }

    public int setScanLength(int length) throws IllegalArgumentException {
        if (length != 0 && (length < SHORTEST_SCAN || length > LONGEST_SCAN)) {
            throw new IllegalArgumentException("the scan length is 0, or 2 to 20");
        }
        int before = cache.scanLength;
        cache.scanLength = length;
        return before;
    }

    public int run() {
        return cache.run;
    }

    // ---- the cache as it is

    public int target() {
        return cache.target;
    }

    public int size() {
        return cache.pages();
    }

    public int whereIs(int key) throws IllegalArgumentException {
        checkKey(key);
        return cache.listWith(key);
    }

    public int victim() {
        return cache.nextToLeave();
    }

    public int recentSize() {
        return cache.recent.length();
    }

    public int frequentSize() {
        return cache.frequent.length();
    }

    public int recentGhosts() {
        return cache.recentGhosts.length();
    }

    public int frequentGhosts() {
        return cache.frequentGhosts.length();
    }

    public int recentAt(int place) throws IndexOutOfBoundsException {
        return keyAt(cache.recent, place);
    }

    public int frequentAt(int place) throws IndexOutOfBoundsException {
        return keyAt(cache.frequent, place);
    }

    public int recentGhostAt(int place) throws IndexOutOfBoundsException {
        return keyAt(cache.recentGhosts, place);
    }

    public int frequentGhostAt(int place) throws IndexOutOfBoundsException {
        return keyAt(cache.frequentGhosts, place);
    }

    // ---- counters

    public int requests() {
        return requests;
    }

    public int hits() {
        return hits;
    }

    public int ghostHits() {
        return ghostHits;
    }

    public int bypassed() {
        return bypassed;
    }

    public int evictions() {
        return cache.evictions;
    }

    // ---- what would have been

    public int hitsIf(int capacity) throws IllegalArgumentException {
        checkCapacity(capacity);
        trial.startAnew(capacity, cache.scanLength);
        int found = 0;
        for (int index = 0; index < log.length(); index++) {
            if (isPage(trial.serve(log.fromOldest(index)))) {
                found++;
            }
        }
        return found;
    }

    public int leastRecentHitsIf(int capacity) throws IllegalArgumentException {
        checkCapacity(capacity);
        latestPages.empty();
        int found = 0;
        for (int index = 0; index < log.length(); index++) {
            int key = log.fromOldest(index);
            if (latestPages.takeOut(key)) {
                found++;
            } else if (latestPages.length() >= capacity) {
                latestPages.takeOldest();
            }
            latestPages.join(key);
        }
        return found;
    }

    private static void checkKey(int key) {
        if (key < 0 || key > LARGEST_KEY) {
            throw new IllegalArgumentException("a key is 0 to 9999");
        }
    }

    private static void checkCapacity(int capacity) {
        if (capacity < 1 || capacity > LARGEST_CAPACITY) {
            throw new IllegalArgumentException("the capacity is 1 to 32");
        }
    }

    private static int keyAt(KeyList list, int place) {
        if (place < 0 || place >= list.length()) {
            throw new IndexOutOfBoundsException("there is no such place");
        }
        return list.fromNewest(place);
    }

    // The outcome of a hit is the number of the list in which the key was, so this tells of both.
    private static boolean isPage(int where) {
        return where == RECENT || where == FREQUENT;
    }

    private void addToLog(int key) {
        if (log.length() >= LOG_LENGTH) {
            log.takeOldest();
        }
        log.join(key);
    }

    private void count(int outcome) {
        requests++;
        if (isPage(outcome)) {
            hits++;
        } else if (outcome == RECENT_GHOST || outcome == FREQUENT_GHOST) {
            ghostHits++;
        } else if (outcome == BYPASSED) {
            bypassed++;
        }
    }

    // Apart from the log and the counters, so that hitsIf can replay the log in a second one.
    private static final class Cache {
        private final KeyList recent = new KeyList();
        private final KeyList frequent = new KeyList();
        private final KeyList recentGhosts = new KeyList();
        private final KeyList frequentGhosts = new KeyList();
        private int capacity = FIRST_CAPACITY;
        private int target;
        private int scanLength;
        private int run;
        private int keyBefore = NONE;
        private int evictions;

        void startAnew(int newCapacity, int newScanLength) {
            forgetAll();
            capacity = newCapacity;
            scanLength = newScanLength;
            run = 0;
            keyBefore = NONE;
            evictions = 0;
        }

        int pages() {
            return recent.length() + frequent.length();
        }

        int listWith(int key) {
            if (recent.holds(key)) {
                return RECENT;
            }
            if (frequent.holds(key)) {
                return FREQUENT;
            }
            if (recentGhosts.holds(key)) {
                return RECENT_GHOST;
            }
            return frequentGhosts.holds(key) ? FREQUENT_GHOST : NOWHERE;
        }

        int forget(int key) {
            int where = listWith(key);
            takeFrom(where, key);
            return where;
        }

        int forgetAll() {
            int forgotten = pages();
            recent.empty();
            frequent.empty();
            recentGhosts.empty();
            frequentGhosts.empty();
            target = 0;
            return forgotten;
        }

        int changeCapacity(int newCapacity) {
            capacity = newCapacity;
            target = Math.min(target, capacity);
            int surplusPages = Math.max(0, pages() - capacity);
            for (int evicted = 0; evicted < surplusPages; evicted++) {
                evict(false);
            }
            int surplusGhosts = recentAndGhosts() - capacity;
            for (int dropped = 0; dropped < surplusGhosts; dropped++) {
                recentGhosts.takeOldest();
            }
            int surplusKeys = keysInAll() - 2 * capacity;
            for (int dropped = 0; dropped < surplusKeys; dropped++) {
                frequentGhosts.takeOldest();
            }
            return surplusPages;
        }

        int serve(int key) {
            lengthenRun(key);
            int where = listWith(key);
            if (scanLength != 0 && run >= scanLength) {
                return isPage(where) ? where : BYPASSED;
            }
            if (where == NOWHERE) {
                admit(key);
                return MISS;
            }
            if (!isPage(where)) {
                adaptTarget(where);
                makeRoom(where == FREQUENT_GHOST);
            }
            takeFrom(where, key);
            frequent.join(key);
            return where;
        }

        // What else admit drops are ghosts, which do not change whether and where a page leaves.
        int nextToLeave() {
            if (dropsRecentPage()) {
                return recent.oldest();
            }
            if (!isFull()) {
                return NONE;
            }
            return evictsRecentPage(false) ? recent.oldest() : frequent.oldest();
        }

        private void lengthenRun(int key) {
            boolean follows = keyBefore != NONE && key == keyBefore + 1;
            run = follows ? run + 1 : 1;
            keyBefore = key;
        }

        private void admit(int key) {
            if (dropsRecentPage()) {
                recent.takeOldest();
                evictions++;
            } else if (recentAndGhosts() == capacity) {
                recentGhosts.takeOldest();
            } else if (keysInAll() == 2 * capacity) {
                frequentGhosts.takeOldest();
            }
            // Does nothing after a page was dropped: the cache was at most full before.
            makeRoom(false);
            recent.join(key);
        }

        private void adaptTarget(int where) {
            int recentCount = recentGhosts.length();
            int frequentCount = frequentGhosts.length();
            if (where == RECENT_GHOST) {
                target = Math.min(capacity, target + adaptationStep(frequentCount, recentCount));
            } else {
                target = Math.max(0, target - adaptationStep(recentCount, frequentCount));
            }
        }

        private static int adaptationStep(int otherGhosts, int ownGhosts) {
            return ownGhosts < 1 ? 1 : Math.max(1, otherGhosts / ownGhosts);
        }

        private void makeRoom(boolean forFrequentGhost) {
            if (isFull()) {
                evict(forFrequentGhost);
            }
        }

        private void evict(boolean forFrequentGhost) {
            if (evictsRecentPage(forFrequentGhost)) {
                recentGhosts.join(recent.takeOldest());
            } else {
                frequentGhosts.join(frequent.takeOldest());
            }
            evictions++;
        }

        private boolean evictsRecentPage(boolean forFrequentGhost) {
            int length = recent.length();
            return length > target || (forFrequentGhost && length == target && length > 0);
        }

        private boolean dropsRecentPage() {
            return recentAndGhosts() == capacity && recentGhosts.length() == 0;
        }

        private boolean isFull() {
            return pages() == capacity;
        }

        private int recentAndGhosts() {
            return recent.length() + recentGhosts.length();
        }

        private int keysInAll() {
            return pages() + recentGhosts.length() + frequentGhosts.length();
        }

        private void takeFrom(int where, int key) {
            switch (where) {
                case RECENT:
                    recent.takeOut(key);
                    break;
                case FREQUENT:
                    frequent.takeOut(key);
                    break;
                case RECENT_GHOST:
                    recentGhosts.takeOut(key);
                    break;
                case FREQUENT_GHOST:
                    frequentGhosts.takeOut(key);
                    break;
                default:
                    break;
            }
        }
    }

    private static final class KeyList {
        // In the order in which they joined: the oldest key stands first, so that joining moves no other.
        private final int[] keys = new int[LONGEST_LIST];
        private int length;

        int length() {
            return length;
        }

        void empty() {
            length = 0;
        }

        // NONE is what an empty list gives when its oldest key is taken.
        void join(int key) {
            if (key != NONE && length < keys.length) {
                keys[length] = key;
                length++;
            }
        }

        boolean holds(int key) {
            return indexOf(key) >= 0;
        }

        /** The oldest key; NONE if there is none. */
        int oldest() {
            return fromOldest(0);
        }

        /** The key at a place, 0 for the oldest one; NONE if there is no such place. */
        int fromOldest(int index) {
            return index >= 0 && index < length && index < keys.length ? keys[index] : NONE;
        }

        /** The key at a place, 0 for the newest one; NONE if there is no such place. */
        int fromNewest(int place) {
            return fromOldest(length - 1 - place);
        }

        /** Takes the oldest key out and returns it; NONE if there is none. */
        int takeOldest() {
            int key = fromOldest(0);
            closeGap(0);
            return key;
        }

        boolean takeOut(int key) {
            int index = indexOf(key);
            closeGap(index);
            return index >= 0;
        }

        private int indexOf(int key) {
            for (int index = 0; index < length && index < keys.length; index++) {
                if (keys[index] == key) {
                    return index;
                }
            }
            return -1;
        }

        private void closeGap(int gap) {
            if (gap < 0 || gap >= length) {
                return;
            }
            for (int index = gap; index + 1 < length && index + 1 < keys.length; index++) {
                keys[index] = keys[index + 1];
            }
            length--;
        }
    }
}
