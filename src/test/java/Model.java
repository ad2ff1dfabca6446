import java.util.ArrayDeque;
import java.util.ArrayList;
import java.util.Deque;
import java.util.LinkedHashSet;
import java.util.List;

/** The document told a second time, sentence by sentence, with the Java library: what ModelTest compares with. */
final class Model {
    // The newest key stands first in each of them.
    final Deque<Integer> recent = new ArrayDeque<>();
    final Deque<Integer> frequent = new ArrayDeque<>();
    final Deque<Integer> recentGhosts = new ArrayDeque<>();
    final Deque<Integer> frequentGhosts = new ArrayDeque<>();
    final List<Integer> everyRequest = new ArrayList<>();
    int capacity = 8;
    int target;
    int scanLength;
    int run;
    int hits;
    int ghostHits;
    int bypassed;
    int evictions;

    int request(int key) {
        int last = everyRequest.size() - 1;
        run = last >= 0 && everyRequest.get(last) + 1 == key ? run + 1 : 1;
        everyRequest.add(key);
        int where = whereIs(key);
        boolean inCache = recent.contains(key) || frequent.contains(key);
        if (inCache) {
            hits++;
        }
        if (scanLength > 0 && run >= scanLength) {
            if (!inCache) {
                bypassed++;
                return 6;
            }
            return where;
        }
        if (where == 1) {
            recent.remove(key);
            frequent.addFirst(key);
        } else if (where == 2) {
            frequent.remove(key);
            frequent.addFirst(key);
        } else if (where == 3) {
            ghostHits++;
            int raise = frequentGhosts.size() / recentGhosts.size();
            target += raise < 1 ? 1 : raise;
            if (target > capacity) {
                target = capacity;
            }
            evictIfFull(where);
            recentGhosts.remove(key);
            frequent.addFirst(key);
        } else if (where == 4) {
            ghostHits++;
            int fall = recentGhosts.size() / frequentGhosts.size();
            target -= fall < 1 ? 1 : fall;
            if (target < 0) {
                target = 0;
            }
            evictIfFull(where);
            frequentGhosts.remove(key);
            frequent.addFirst(key);
        } else {
            miss(key);
            return 5;
        }
        return where;
    }

    private void miss(int key) {
        if (recent.size() + recentGhosts.size() == capacity) {
            if (recentGhosts.isEmpty()) {
                recent.removeLast();
                evictions++;
            } else {
                recentGhosts.removeLast();
                evictIfFull(0);
            }
        } else {
            if (inAll() == capacity * 2) {
                frequentGhosts.removeLast();
            }
            evictIfFull(0);
        }
        recent.addFirst(key);
    }

    private void evictIfFull(int where) {
        if (recent.size() + frequent.size() == capacity) {
            evict(where);
        }
    }

    private void evict(int where) {
        evictions++;
        boolean longer = recent.size() > target;
        boolean as = recent.size() == target && !recent.isEmpty() && where == 4;
        if (longer || as) {
            recentGhosts.addFirst(recent.removeLast());
        } else {
            frequentGhosts.addFirst(frequent.removeLast());
        }
    }

    int inAll() {
        return recent.size() + frequent.size() + recentGhosts.size() + frequentGhosts.size();
    }

    int whereIs(int key) {
        if (recent.contains(key)) {
            return 1;
        }
        if (frequent.contains(key)) {
            return 2;
        }
        if (recentGhosts.contains(key)) {
            return 3;
        }
        return frequentGhosts.contains(key) ? 4 : 0;
    }

    int remove(int key) {
        int where = whereIs(key);
        recent.remove(key);
        frequent.remove(key);
        recentGhosts.remove(key);
        frequentGhosts.remove(key);
        return where;
    }

    int clear() {
        int pages = recent.size() + frequent.size();
        recent.clear();
        frequent.clear();
        recentGhosts.clear();
        frequentGhosts.clear();
        target = 0;
        return pages;
    }

    int setCapacity(int capacity) {
        this.capacity = capacity;
        if (target > capacity) {
            target = capacity;
        }
        int before = evictions;
        while (recent.size() + frequent.size() > capacity) {
            evict(0);
        }
        while (recent.size() + recentGhosts.size() > capacity) {
            recentGhosts.removeLast();
        }
        while (inAll() > 2 * capacity) {
            frequentGhosts.removeLast();
        }
        return evictions - before;
    }

    int setScanLength(int length) {
        int before = scanLength;
        scanLength = length;
        return before;
    }

    /** Found by trying: a copy gets a request for a key that is in no list. */
    int victim() {
        Model copy = new Model();
        copy.recent.addAll(recent);
        copy.frequent.addAll(frequent);
        copy.recentGhosts.addAll(recentGhosts);
        copy.frequentGhosts.addAll(frequentGhosts);
        copy.capacity = capacity;
        copy.target = target;
        copy.request(-7);
        List<Integer> pages = new ArrayList<>(recent);
        pages.addAll(frequent);
        for (int key : pages) {
            int where = copy.whereIs(key);
            if (where != 1 && where != 2) {
                return key;
            }
        }
        return -1;
    }

    private List<Integer> log() {
        int size = everyRequest.size();
        return everyRequest.subList(Math.max(0, size - 60), size);
    }

    int hitsIf(int capacity) {
        Model fresh = new Model();
        fresh.setCapacity(capacity);
        fresh.setScanLength(scanLength);
        for (int key : log()) {
            fresh.request(key);
        }
        return fresh.hits;
    }

    int leastRecentHitsIf(int capacity) {
        LinkedHashSet<Integer> pages = new LinkedHashSet<>();
        int found = 0;
        for (int key : log()) {
            if (pages.remove(key)) {
                found++;
            } else if (pages.size() == capacity) {
                pages.remove(pages.iterator().next());
            }
            pages.add(key);
        }
        return found;
    }

    String lists() {
        return "recent" + shown(recent) + " | frequent" + shown(frequent) + " | recent ghosts"
                + shown(recentGhosts) + " | frequent ghosts" + shown(frequentGhosts);
    }

    private static String shown(Deque<Integer> list) {
        StringBuilder text = new StringBuilder();
        for (int key : list) {
            text.append(' ').append(key);
        }
        return text.toString();
    }

    String all() {
        StringBuilder text = new StringBuilder(lists());
        text.append(" | requests ").append(everyRequest.size()).append(" hits ").append(hits);
        text.append(" ghost hits ").append(ghostHits).append(" bypassed ").append(bypassed);
        text.append(" evictions ").append(evictions);
        text.append(" | capacity ").append(capacity).append(" run ").append(run);
        text.append(" target ").append(target).append(" size ").append(recent.size() + frequent.size());
        text.append(" victim ").append(victim());
        for (int capacity = 1; capacity <= 32; capacity++) {
            text.append(' ').append(hitsIf(capacity)).append('/').append(leastRecentHitsIf(capacity));
        }
        return text.toString();
    }
}
