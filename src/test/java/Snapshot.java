/** All that an object tells of itself, in at most 360 calls; its settings are changed by that. */
final class Snapshot {
    private Snapshot() {
    }

    static String of(Swapyard y) {
        StringBuilder text = new StringBuilder();
        text.append("time ").append(y.time()).append(" hand ").append(y.hand());
        text.append(" free ").append(y.free()).append(" stored ").append(y.stored());
        text.append(" disk ").append(y.onDisk()).append(" pressure ").append(y.pressure());
        text.append(" deaths ").append(y.deaths());
        text.append(" victim ").append(Check.outcome(y::victim));
        text.append(" smooth ").append(Check.outcome(y::smoothShare));
        text.append(" mean ").append(Check.outcome(y::meanStalls));
        text.append(" sound ").append(y.isSound());
        text.append(" store ").append(store(y));
        int services = services(y);
        for (int s = 0; s < services; s++) {
            text.append('\n').append(service(y, s));
        }
        text.append('\n').append(ticks(y));
        text.append('\n').append(settings(y, services));
        text.append('\n').append(needs(y, services));
        return text.toString();
    }

    static String store(Swapyard y) {
        StringBuilder text = new StringBuilder();
        for (int i = 0; i < 48; i++) {
            String page = Check.outcome(answerOfStore(y, i));
            if (page.startsWith("throws")) {
                break;
            }
            text.append(text.length() == 0 ? "" : " ").append(page);
        }
        return text.toString();
    }

    private static Check.Call answerOfStore(Swapyard y, int index) {
        return () -> y.storedAt(index);
    }

    private static int services(Swapyard y) {
        int count = 0;
        while (count < 7) {
            int asked = count;
            if (Check.outcome(() -> y.starts(asked)).startsWith("throws")) {
                break;
            }
            count++;
        }
        return count;
    }

    private static String service(Swapyard y, int s) {
        StringBuilder text = new StringBuilder();
        text.append(s).append(": state ").append(y.stateOf(s)).append(" starts ").append(y.starts(s));
        text.append(" score ").append(y.score(s)).append(" stalls ").append(y.stallsOf(s));
        text.append(" needed ").append(y.isNeeded(s));
        text.append(" waits ").append(Check.outcome(() -> y.waitsFor(s)));
        text.append(" startsIn ").append(Check.outcome(() -> y.startsIn(s)));
        for (int p = 0; p < 8; p++) {
            int page = p;
            char place = y.placeOf(s, p);
            text.append(' ').append(place).append(y.placeByEvents(s, p));
            text.append(y.isReferenced(s, p) ? "+" : "");
            text.append(place == 'f' ? Check.outcome(() -> y.frameOf(s, page)) : "");
        }
        return text.toString();
    }

    /** The limit, and how the stalls of the last ticks pass away one tick after another. */
    private static String ticks(Swapyard y) {
        StringBuilder text = new StringBuilder("limit ").append(y.setLimit(999)).append(" pressures");
        for (int tick = 0; tick < 4; tick++) {
            y.tick(1);
            text.append(' ').append(y.pressure());
        }
        return text.toString();
    }

    /** How many each needs with one more: the number grows only where that one was not needed so far. */
    private static String needs(Swapyard y, int services) {
        StringBuilder text = new StringBuilder("needs");
        for (int i = 0; i < services * services; i++) {
            int s = i / services;
            int other = i % services;
            if (s != other) {
                text.append(' ').append(Check.outcome(() -> y.addNeed(s, other)));
            }
        }
        return text.toString();
    }

    private static String settings(Swapyard y, int services) {
        StringBuilder text = new StringBuilder("sizes");
        for (int i = 0; i < 8 * services; i++) {
            int s = i / 8;
            int p = i % 8;
            text.append(' ').append(Check.outcome(() -> y.setSize(s, p, 1)));
        }
        text.append(" room ").append(y.setRoom(0));
        text.append(" frames ").append(y.setFrames(1));
        return text.toString();
    }
}
