/** What an object shows by its calls, as one text. */
final class Shown {
    private Shown() {
    }

    static String lists(AdaptiveReplacementCache x) {
        StringBuilder text = new StringBuilder("recent");
        for (int place = 0; place < x.recentSize(); place++) {
            text.append(' ').append(x.recentAt(place));
        }
        text.append(" | frequent");
        for (int place = 0; place < x.frequentSize(); place++) {
            text.append(' ').append(x.frequentAt(place));
        }
        text.append(" | recent ghosts");
        for (int place = 0; place < x.recentGhosts(); place++) {
            text.append(' ').append(x.recentGhostAt(place));
        }
        text.append(" | frequent ghosts");
        for (int place = 0; place < x.frequentGhosts(); place++) {
            text.append(' ').append(x.frequentGhostAt(place));
        }
        return text.toString();
    }

    static String counters(AdaptiveReplacementCache x) {
        return "requests " + x.requests() + " hits " + x.hits() + " ghost hits " + x.ghostHits()
                + " bypassed " + x.bypassed() + " evictions " + x.evictions();
    }

    static String all(AdaptiveReplacementCache x) {
        StringBuilder text = new StringBuilder(lists(x)).append(" | ").append(counters(x));
        text.append(" | capacity ").append(x.capacity()).append(" run ").append(x.run());
        text.append(" target ").append(x.target()).append(" size ").append(x.size());
        text.append(" victim ").append(x.victim());
        for (int capacity = 1; capacity <= 32; capacity++) {
            text.append(' ').append(x.hitsIf(capacity)).append('/').append(x.leastRecentHitsIf(capacity));
        }
        return text.toString();
    }
}
