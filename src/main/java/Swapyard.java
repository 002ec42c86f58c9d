import java.util.ArrayList;
import java.util.NoSuchElementException;

/** A memory manager with services; ../shared/DOC.md says what each call does. */
public final class Swapyard {
    private static final int MAX_SERVICES = 6;
    private static final int MAX_WEIGHT = 100;
    private static final int MAX_DELAY = 20;
    private static final int PAGES_EACH = 8;
    private static final int MAX_PAGES = MAX_SERVICES * PAGES_EACH;
    private static final int MAX_SIZE = 4;
    private static final int MAX_FRAMES = 16;
    private static final int MAX_ROOM = 60;
    private static final int MAX_LIMIT = 999;
    private static final int MAX_TICKS = 50;

    private static final char ALWAYS = 'a';
    private static final char NEEDED = 'n';

    private static final char IN_FRAME = 'f';
    private static final char IN_STORE = 's';
    private static final char ON_DISK = 'd';
    private static final char NOWHERE = '-';
    private static final int NO_FRAME = -1;

    private static final int STALLS_FROM_NOWHERE = 1;
    private static final int STALLS_FROM_STORE = 2;
    private static final int STALLS_FROM_DISK = 10;
    private static final int STALLS_INTO_STORE = 1;
    private static final int STALLS_TO_DISK = 5;

    private final History history = new History();
    private final Frames frames = new Frames();
    private final Store store = new Store();
    private final RecentStalls recentStalls = new RecentStalls();
    private final ArrayList<Service> services = new ArrayList<>();
    private int limit = 40;
    private int time;
    private int deaths;
    private int touches;
    private int smoothTouches;
    private long touchStalls;

    public Swapyard() {
    }

    public int addService(int weight, char policy, int delay)
            throws IllegalArgumentException, IllegalStateException {
        requireRange(weight, 0, MAX_WEIGHT);
        if (policy != ALWAYS && policy != NEEDED) {
            throw new IllegalArgumentException("no such policy");
        }
        requireRange(delay, 1, MAX_DELAY);
        int number = services.size();
        if (number >= MAX_SERVICES) {
            throw new IllegalStateException("no more services");
        }
        services.add(new Service(number, weight, policy, delay, history));
        return number;
    }

    public int addNeed(int service, int other)
            throws IndexOutOfBoundsException, IllegalArgumentException, UnsupportedOperationException {
        Service needing = serviceAt(service);
        requireService(other);
        if (service == other) {
            throw new IllegalArgumentException("a service does not need itself");
        }
        if (hasBit(allNeedsOf(other), service)) {
            throw new UnsupportedOperationException("the other one needs this one");
        }
        needing.needs |= 1 << other;
        return Integer.bitCount(needing.needs);
    }

    public int setSize(int service, int page, int size)
            throws IndexOutOfBoundsException, IllegalArgumentException, IllegalStateException {
        Page changed = pageAt(service, page);
        requireRange(size, 1, MAX_SIZE);
        if (changed.place == IN_STORE) {
            throw new IllegalStateException("the page is in the store");
        }
        int before = changed.size;
        changed.size = size;
        return before;
    }

    public int setFrames(int frames) throws IllegalArgumentException {
        requireRange(frames, 1, MAX_FRAMES);
        int before = this.frames.count;
        for (int frame = frames; frame < before; frame++) {
            Page page = this.frames.takeOut(frame);
            if (page != null) {
                store.takeIn(page);
            }
        }
        this.frames.resize(frames);
        return before;
    }

    public int setRoom(int room) throws IllegalArgumentException {
        requireRange(room, 0, MAX_ROOM);
        int before = store.room;
        store.room = room;
        store.makeRoomFor(0);
        return before;
    }

    public int setLimit(int limit) throws IllegalArgumentException {
        requireRange(limit, 0, MAX_LIMIT);
        int before = this.limit;
        this.limit = limit;
        return before;
    }

    public int touch(int service, int page) throws IndexOutOfBoundsException, IllegalStateException {
        Page touched = pageAt(service, page);
        if (!isRunning(service)) {
            throw new IllegalStateException("the service does not run");
        }
        int stalls = 0;
        if (touched.place == IN_FRAME) {
            touched.referenced = true;
        } else {
            stalls = bringIntoFrame(touched);
        }
        countTouch(serviceAt(service), stalls);
        return stalls;
    }

    public int tick(int ticks) throws IllegalArgumentException {
        requireRange(ticks, 1, MAX_TICKS);
        int deathsBefore = deaths;
        for (int passed = 0; passed < ticks; passed++) {
            passOneTick();
        }
        return deaths - deathsBefore;
    }

    public int time() {
        return time;
    }

    public char placeOf(int service, int page) throws IndexOutOfBoundsException {
        return pageAt(service, page).place;
    }

    public char placeByEvents(int service, int page) throws IndexOutOfBoundsException {
        Page asked = pageAt(service, page);
        history.replay();
        return history.replayedPlace(asked.id);
    }

    public int frameOf(int service, int page) throws IndexOutOfBoundsException, NoSuchElementException {
        Page asked = pageAt(service, page);
        if (asked.place != IN_FRAME) {
            throw new NoSuchElementException("the page is in no frame");
        }
        return asked.frame;
    }

    public boolean isReferenced(int service, int page) throws IndexOutOfBoundsException {
        return pageAt(service, page).referenced;
    }

    public int hand() {
        return frames.hand;
    }

    public int free() {
        return frames.countFree();
    }

    public int stored() {
        return store.takenRoom();
    }

    public int storedAt(int index) throws NoSuchElementException {
        if (index < 0 || index >= store.order.size()) {
            throw new NoSuchElementException("no such page in the store");
        }
        return store.order.get(index).id;
    }

    public int onDisk() {
        int count = 0;
        for (int i = 0; i < services.size(); i++) {
            count += services.get(i).countPages(ON_DISK);
        }
        return count;
    }

    public int pagesIn(int service, char place) throws IndexOutOfBoundsException, IllegalArgumentException {
        Service asked = serviceAt(service);
        if (place != IN_FRAME && place != IN_STORE && place != ON_DISK && place != NOWHERE) {
            throw new IllegalArgumentException("no such place");
        }
        return asked.countPages(place);
    }

    public int pressure() {
        return recentStalls.sum();
    }

    public long stallsOf(int service) throws IndexOutOfBoundsException {
        return serviceAt(service).stalls;
    }

    public char stateOf(int service) throws IndexOutOfBoundsException {
        if (serviceAt(service).dead) {
            return 'd';
        }
        return isRunning(service) ? 'r' : 'w';
    }

    public int waitsFor(int service) throws IndexOutOfBoundsException, NoSuchElementException {
        Service waiting = serviceAt(service);
        for (int other = 0; other < services.size(); other++) {
            if (hasBit(waiting.needs, other) && !isRunning(other)) {
                return other;
            }
        }
        throw new NoSuchElementException("all services that it needs run");
    }

    public boolean isNeeded(int service) throws IndexOutOfBoundsException {
        requireService(service);
        return isNeededByLiving(service);
    }

    public int startsIn(int service) throws IndexOutOfBoundsException, IllegalStateException {
        Service asked = serviceAt(service);
        if (!asked.dead) {
            throw new IllegalStateException("the service is not dead");
        }
        return Math.max(1, asked.delayLeft(time));
    }

    public int starts(int service) throws IndexOutOfBoundsException {
        return serviceAt(service).starts;
    }

    public int score(int service) throws IndexOutOfBoundsException {
        return serviceAt(service).killScore();
    }

    public int victim() throws NoSuchElementException {
        Service next = nextVictim();
        if (next == null) {
            throw new NoSuchElementException("no service is alive");
        }
        return next.number;
    }

    public int deaths() {
        return deaths;
    }

    public float smoothShare() throws ArithmeticException {
        if (touches == 0) {
            throw new ArithmeticException("no touches");
        }
        return (float) smoothTouches / (float) touches;
    }

    public double meanStalls() throws ArithmeticException {
        if (touches == 0) {
            throw new ArithmeticException("no touches");
        }
        return (double) touchStalls / (double) touches;
    }

    public boolean isSound() {
        return placesAgree() && framesAreSingle() && store.takenRoom() <= store.room;
    }

    private static void requireRange(int value, int least, int most) {
        if (value < least || value > most) {
            throw new IllegalArgumentException("out of range");
        }
    }

    private void requireService(int service) {
        if (service < 0 || service >= services.size()) {
            throw new IndexOutOfBoundsException("no such service");
        }
    }

    private Service serviceAt(int service) {
        requireService(service);
        return services.get(service);
    }

    private Page pageAt(int service, int page) {
        Service owner = serviceAt(service);
        if (page < 0 || page >= owner.pages.length) {
            throw new IndexOutOfBoundsException("no such page");
        }
        return owner.pages[page];
    }

    private static boolean hasBit(int mask, int number) {
        return (mask >> number & 1) != 0;
    }

    /** The mask of the services that one needs, itself or by others. */
    private int allNeedsOf(int service) {
        int all = serviceAt(service).needs;
        // Each round follows needs at least one step further, and no chain has more steps than services.
        for (int round = 0; round < MAX_SERVICES; round++) {
            for (int other = 0; other < services.size(); other++) {
                if (hasBit(all, other)) {
                    all |= services.get(other).needs;
                }
            }
        }
        return all;
    }

    private boolean isRunning(int service) {
        int required = allNeedsOf(service) | 1 << service;
        for (int other = 0; other < services.size(); other++) {
            if (hasBit(required, other) && services.get(other).dead) {
                return false;
            }
        }
        return true;
    }

    private boolean isNeededByLiving(int service) {
        for (int i = 0; i < services.size(); i++) {
            Service other = services.get(i);
            if (!other.dead && hasBit(other.needs, service)) {
                return true;
            }
        }
        return false;
    }

    private int bringIntoFrame(Page page) {
        int stalls = stallsFrom(page.place);
        // The page leaves first, so that the one that is taken out for it can use its room in the store.
        detach(page);
        int frame = frames.lowestFree();
        if (frame == NO_FRAME) {
            stalls += clearFrame();
            frame = frames.lowestFree();
        }
        frames.put(page, frame);
        return stalls;
    }

    private static int stallsFrom(char place) {
        if (place == ON_DISK) {
            return STALLS_FROM_DISK;
        }
        return place == IN_STORE ? STALLS_FROM_STORE : STALLS_FROM_NOWHERE;
    }

    private void detach(Page page) {
        if (page.place == IN_FRAME) {
            frames.takeOut(page.frame);
        } else if (page.place == IN_STORE) {
            store.drop(page);
        }
    }

    private int clearFrame() {
        Page page = frames.takeOutByClock();
        return page == null ? 0 : store.takeIn(page);
    }

    private void countTouch(Service service, int stalls) {
        touches++;
        if (stalls == 0) {
            smoothTouches++;
        }
        touchStalls += stalls;
        service.stalls += stalls;
        recentStalls.add(stalls);
    }

    private void passOneTick() {
        if (recentStalls.sum() > limit) {
            killNextVictim();
            recentStalls.forget();
        }
        time++;
        recentStalls.beginTick();
        startDeadServices();
    }

    private Service nextVictim() {
        Service found = null;
        for (int i = 0; i < services.size(); i++) {
            Service service = services.get(i);
            if (!service.dead && (found == null || service.killScore() > found.killScore())) {
                found = service;
            }
        }
        return found;
    }

    private void killNextVictim() {
        Service killed = nextVictim();
        if (killed == null) {
            return;
        }
        for (Page page : killed.pages) {
            if (page.place != NOWHERE) {
                detach(page);
                page.moveTo(NOWHERE);
            }
        }
        killed.dead = true;
        killed.killedAt = time;
        deaths++;
    }

    private void startDeadServices() {
        for (int i = 0; i < services.size(); i++) {
            Service service = services.get(i);
            if (service.dead && service.delayLeft(time) <= 0
                    && (service.policy == ALWAYS || isNeededByLiving(i))) {
                service.dead = false;
                service.starts++;
            }
        }
    }

    private boolean placesAgree() {
        history.replay();
        for (int i = 0; i < services.size(); i++) {
            for (Page page : services.get(i).pages) {
                if (page.place != history.replayedPlace(page.id)) {
                    return false;
                }
            }
        }
        return true;
    }

    private boolean framesAreSingle() {
        int seen = 0;
        for (int i = 0; i < services.size(); i++) {
            for (Page page : services.get(i).pages) {
                if (page.place == IN_FRAME) {
                    if (hasBit(seen, page.frame)) {
                        return false;
                    }
                    seen |= 1 << page.frame;
                }
            }
        }
        return true;
    }

    private static final class Service {
        final int number;
        final int weight;
        final char policy;
        final int delay;
        final Page[] pages = new Page[PAGES_EACH];
        /** The mask of the services that it needs itself. */
        int needs;
        boolean dead;
        int killedAt;
        int starts;
        long stalls;

        Service(int number, int weight, char policy, int delay, History history) {
            this.number = number;
            this.weight = weight;
            this.policy = policy;
            this.delay = delay;
            for (int page = 0; page < pages.length; page++) {
                pages[page] = new Page(PAGES_EACH * number + page, history);
            }
        }

        int countPages(char place) {
            int count = 0;
            for (Page page : pages) {
                if (page.place == place) {
                    count++;
                }
            }
            return count;
        }

        int killScore() {
            return 10 * countPages(IN_FRAME) + 3 * countPages(IN_STORE) + countPages(ON_DISK)
                    - weight - 20 * starts;
        }

        int delayLeft(int now) {
            return delay - (now - killedAt);
        }
    }

    private static final class Page {
        final int id;
        private final History history;
        int size = 2;
        char place = NOWHERE;
        int frame = NO_FRAME;
        boolean referenced;

        Page(int id, History history) {
            this.id = id;
            this.history = history;
        }

        void moveIntoFrame(int number) {
            moveTo(IN_FRAME);
            frame = number;
            referenced = true;
        }

        void moveTo(char newPlace) {
            place = newPlace;
            frame = NO_FRAME;
            referenced = false;
            history.record(id, newPlace);
        }
    }

    private static final class Frames {
        private final Page[] held = new Page[MAX_FRAMES];
        int count = 4;
        int hand;

        int lowestFree() {
            for (int frame = 0; frame < held.length && frame < count; frame++) {
                if (held[frame] == null) {
                    return frame;
                }
            }
            return NO_FRAME;
        }

        int countFree() {
            int free = 0;
            for (int frame = 0; frame < held.length && frame < count; frame++) {
                if (held[frame] == null) {
                    free++;
                }
            }
            return free;
        }

        void put(Page page, int frame) {
            if (frame >= 0 && frame < held.length) {
                held[frame] = page;
                page.moveIntoFrame(frame);
            }
        }

        Page takeOut(int frame) {
            if (frame < 0 || frame >= held.length) {
                return null;
            }
            Page page = held[frame];
            held[frame] = null;
            return page;
        }

        Page takeOutByClock() {
            // One round makes every page unreferenced, so the step behind it finds one at the latest.
            for (int step = 0; step <= count; step++) {
                int frame = hand;
                hand = frame + 1 < count ? frame + 1 : 0;
                if (!takeReference(frame)) {
                    return takeOut(frame);
                }
            }
            return null;
        }

        private boolean takeReference(int frame) {
            if (frame < 0 || frame >= held.length || held[frame] == null) {
                return false;
            }
            boolean was = held[frame].referenced;
            held[frame].referenced = false;
            return was;
        }

        void resize(int newCount) {
            count = newCount;
            if (hand >= newCount) {
                hand = 0;
            }
        }
    }

    private static final class Store {
        /** The one that is there longest comes first. */
        final ArrayList<Page> order = new ArrayList<>();
        int room = 6;

        int takenRoom() {
            int taken = 0;
            for (int i = 0; i < order.size(); i++) {
                taken += order.get(i).size;
            }
            return taken;
        }

        /** Takes a page from a frame in, or lets it pass to the disk; returns the stalls of that. */
        int takeIn(Page page) {
            if (page.size > room) {
                page.moveTo(ON_DISK);
                return STALLS_TO_DISK;
            }
            int pushedOut = makeRoomFor(page.size);
            order.add(page);
            page.moveTo(IN_STORE);
            return STALLS_INTO_STORE + STALLS_TO_DISK * pushedOut;
        }

        /** Returns how many pages went to the disk for it. */
        int makeRoomFor(int size) {
            int pushedOut = 0;
            for (int left = order.size(); left > 0 && takenRoom() + size > room; left--) {
                order.remove(0).moveTo(ON_DISK);
                pushedOut++;
            }
            return pushedOut;
        }

        void drop(Page page) {
            for (int i = 0; i < order.size(); i++) {
                if (order.get(i) == page) {
                    order.remove(i);
                    return;
                }
            }
        }
    }

    /** The stalls of the present tick, at index 0, and of the three ticks ahead of it. */
    private static final class RecentStalls {
        private final int[] counts = new int[4];

        void add(int stalls) {
            counts[0] += stalls;
        }

        int sum() {
            int sum = 0;
            for (int count : counts) {
                sum += count;
            }
            return sum;
        }

        void forget() {
            for (int i = 0; i < counts.length; i++) {
                counts[i] = 0;
            }
        }

        void beginTick() {
            for (int i = counts.length - 1; i > 0; i--) {
                counts[i] = counts[i - 1];
            }
            counts[0] = 0;
        }
    }

    /** All that happened to pages: each event is a page's id, shifted by 8, with the place it came to. */
    private static final class History {
        // From one touch that moves a page to the next, it comes at most to each of the 4 places once,
        // so 512 calls make no more events than this.
        private final int[] events = new int[512 * 4];
        private int count;
        private final char[] replayed = new char[MAX_PAGES];

        void record(int page, char place) {
            if (count < events.length) {
                events[count] = page << 8 | place;
                count++;
            }
        }

        void replay() {
            for (int page = 0; page < replayed.length; page++) {
                replayed[page] = NOWHERE;
            }
            for (int i = 0; i < count && i < events.length; i++) {
                int page = events[i] >> 8;
                if (page >= 0 && page < replayed.length) {
                    replayed[page] = (char) (events[i] & 255);
                }
            }
        }

        char replayedPlace(int page) {
            return page >= 0 && page < replayed.length ? replayed[page] : NOWHERE;
        }
    }
}
