import java.util.ArrayList;
import java.util.HashMap;
import java.util.List;
import java.util.Map;
import java.util.NoSuchElementException;

/** The document once more, as plain as it goes: places are found by looking where a page is listed. */
final class Model {
    private static final class Service {
        int weight;
        char policy;
        int delay;
        boolean dead;
        int killedAt;
        int starts;
        long stalls;
        final List<Integer> needs = new ArrayList<>();
        final int[] sizes = {2, 2, 2, 2, 2, 2, 2, 2};
    }

    private final List<Service> services = new ArrayList<>();
    private final List<Integer> frames = new ArrayList<>(List.of(-1, -1, -1, -1));
    private final List<Integer> referenced = new ArrayList<>();
    private final List<Integer> store = new ArrayList<>();
    private final List<Integer> disk = new ArrayList<>();
    private final Map<Integer, Integer> stallsAt = new HashMap<>();
    private final List<Integer> touchStalls = new ArrayList<>();
    private int hand;
    private int room = 6;
    private int limit = 40;
    private int time;
    private int deaths;

    int addService(int weight, char policy, int delay) {
        argument(0 <= weight && weight <= 100 && (policy == 'a' || policy == 'n') && 1 <= delay && delay <= 20);
        state(services.size() < 6);
        Service added = new Service();
        added.weight = weight;
        added.policy = policy;
        added.delay = delay;
        services.add(added);
        return services.size() - 1;
    }

    int addNeed(int service, int other) {
        index(isService(service) && isService(other));
        argument(service != other);
        if (reaches(other, service)) {
            throw new UnsupportedOperationException();
        }
        List<Integer> needs = services.get(service).needs;
        if (!needs.contains(other)) {
            needs.add(other);
        }
        return needs.size();
    }

    int setSize(int service, int page, int size) {
        int id = page(service, page);
        argument(1 <= size && size <= 4);
        state(!store.contains(id));
        int before = size(id);
        services.get(service).sizes[page] = size;
        return before;
    }

    int setFrames(int count) {
        argument(1 <= count && count <= 16);
        int before = frames.size();
        while (frames.size() < count) {
            frames.add(-1);
        }
        List<Integer> gone = new ArrayList<>(frames.subList(count, frames.size()));
        frames.subList(count, frames.size()).clear();
        for (int id : gone) {
            if (id >= 0) {
                putAway(id);
            }
        }
        hand = hand < count ? hand : 0;
        return before;
    }

    int setRoom(int newRoom) {
        argument(0 <= newRoom && newRoom <= 60);
        int before = room;
        room = newRoom;
        while (stored() > room) {
            disk.add(store.remove(0));
        }
        return before;
    }

    int setLimit(int newLimit) {
        argument(0 <= newLimit && newLimit <= 999);
        int before = limit;
        limit = newLimit;
        return before;
    }

    int touch(int service, int page) {
        int id = page(service, page);
        state(runs(service));
        int stalls = 0;
        if (!frames.contains(id)) {
            stalls = store.contains(id) ? 2 : disk.contains(id) ? 10 : 1;
            store.remove((Integer) id);
            disk.remove((Integer) id);
            if (!frames.contains(-1)) {
                stalls += clear();
            }
            frames.set(frames.indexOf(-1), id);
        }
        referenced.remove((Integer) id);
        referenced.add(id);
        touchStalls.add(stalls);
        services.get(service).stalls += stalls;
        stallsAt.merge(time, stalls, Integer::sum);
        return stalls;
    }

    private int clear() {
        while (referenced.contains(frames.get(hand))) {
            referenced.remove(frames.get(hand));
            hand = (hand + 1) % frames.size();
        }
        int out = frames.set(hand, -1);
        hand = (hand + 1) % frames.size();
        return putAway(out);
    }

    private int putAway(int id) {
        referenced.remove((Integer) id);
        if (size(id) > room) {
            disk.add(id);
            return 5;
        }
        int stalls = 1;
        while (stored() + size(id) > room) {
            disk.add(store.remove(0));
            stalls += 5;
        }
        store.add(id);
        return stalls;
    }

    int tick(int ticks) {
        argument(1 <= ticks && ticks <= 50);
        int before = deaths;
        for (int i = 0; i < ticks; i++) {
            if (pressure() > limit) {
                if (services.stream().anyMatch(s -> !s.dead)) {
                    kill(victim());
                }
                stallsAt.clear();
            }
            time++;
            for (int s = 0; s < services.size(); s++) {
                Service service = services.get(s);
                if (service.dead && time - service.killedAt >= service.delay
                        && (service.policy == 'a' || isNeeded(s))) {
                    service.dead = false;
                    service.starts++;
                }
            }
        }
        return deaths - before;
    }

    private void kill(int service) {
        services.get(service).dead = true;
        services.get(service).killedAt = time;
        deaths++;
        for (int page = 0; page < 8; page++) {
            Integer id = 8 * service + page;
            frames.replaceAll(held -> held.equals(id) ? -1 : held);
            referenced.remove(id);
            store.remove(id);
            disk.remove(id);
        }
    }

    int time() {
        return time;
    }

    char placeOf(int service, int page) {
        int id = page(service, page);
        return frames.contains(id) ? 'f' : store.contains(id) ? 's' : disk.contains(id) ? 'd' : '-';
    }

    int frameOf(int service, int page) {
        int id = page(service, page);
        element(frames.contains(id));
        return frames.indexOf(id);
    }

    boolean isReferenced(int service, int page) {
        return referenced.contains(page(service, page));
    }

    int hand() {
        return hand;
    }

    int free() {
        return (int) frames.stream().filter(held -> held == -1).count();
    }

    int stored() {
        return store.stream().mapToInt(this::size).sum();
    }

    int storedAt(int index) {
        element(0 <= index && index < store.size());
        return store.get(index);
    }

    int onDisk() {
        return disk.size();
    }

    int pagesIn(int service, char place) {
        index(isService(service));
        argument("fsd-".indexOf(place) >= 0);
        int count = 0;
        for (int page = 0; page < 8; page++) {
            count += placeOf(service, page) == place ? 1 : 0;
        }
        return count;
    }

    int pressure() {
        int sum = 0;
        for (int tick = time - 3; tick <= time; tick++) {
            sum += stallsAt.getOrDefault(tick, 0);
        }
        return sum;
    }

    long stallsOf(int service) {
        index(isService(service));
        return services.get(service).stalls;
    }

    char stateOf(int service) {
        index(isService(service));
        return services.get(service).dead ? 'd' : runs(service) ? 'r' : 'w';
    }

    int waitsFor(int service) {
        index(isService(service));
        int lowest = services.get(service).needs.stream().filter(other -> !runs(other)).min(Integer::compare)
                .orElse(-1);
        element(lowest >= 0);
        return lowest;
    }

    boolean isNeeded(int service) {
        index(isService(service));
        return services.stream().anyMatch(other -> !other.dead && other.needs.contains(service));
    }

    int startsIn(int service) {
        index(isService(service));
        Service asked = services.get(service);
        state(asked.dead);
        int ticks = 1;
        while (time + ticks - asked.killedAt < asked.delay) {
            ticks++;
        }
        return ticks;
    }

    int starts(int service) {
        index(isService(service));
        return services.get(service).starts;
    }

    int score(int service) {
        return 10 * pagesIn(service, 'f') + 3 * pagesIn(service, 's') + pagesIn(service, 'd')
                - services.get(service).weight - 20 * services.get(service).starts;
    }

    int victim() {
        int best = -1;
        for (int s = services.size() - 1; s >= 0; s--) {
            if (!services.get(s).dead && (best < 0 || score(s) >= score(best))) {
                best = s;
            }
        }
        element(best >= 0);
        return best;
    }

    int deaths() {
        return deaths;
    }

    float smoothShare() {
        touched();
        return (float) touchStalls.stream().filter(stalls -> stalls == 0).count() / (float) touchStalls.size();
    }

    double meanStalls() {
        touched();
        return (double) touchStalls.stream().mapToLong(stalls -> stalls).sum() / (double) touchStalls.size();
    }

    private void touched() {
        if (touchStalls.isEmpty()) {
            throw new ArithmeticException();
        }
    }

    private boolean runs(int service) {
        return !services.get(service).dead && services.get(service).needs.stream().allMatch(this::runs);
    }

    private boolean reaches(int from, int to) {
        return services.get(from).needs.stream().anyMatch(next -> next == to || reaches(next, to));
    }

    private int size(int id) {
        return services.get(id / 8).sizes[id % 8];
    }

    private boolean isService(int service) {
        return 0 <= service && service < services.size();
    }

    private int page(int service, int page) {
        index(isService(service) && 0 <= page && page <= 7);
        return 8 * service + page;
    }

    private static void index(boolean fine) {
        if (!fine) {
            throw new IndexOutOfBoundsException();
        }
    }

    private static void argument(boolean fine) {
        if (!fine) {
            throw new IllegalArgumentException();
        }
    }

    private static void state(boolean fine) {
        if (!fine) {
            throw new IllegalStateException();
        }
    }

    private static void element(boolean fine) {
        if (!fine) {
            throw new NoSuchElementException();
        }
    }
}
