import java.util.function.Consumer;

/** Promises 1 to 7: a new object, and the calls that add and set. */
public final class SettingsTest {
    private static final Class<IllegalArgumentException> ARGUMENT = IllegalArgumentException.class;
    private static final Class<IllegalStateException> STATE = IllegalStateException.class;
    private static final Class<IndexOutOfBoundsException> INDEX = IndexOutOfBoundsException.class;
    private static final Class<UnsupportedOperationException> CYCLE = UnsupportedOperationException.class;

    private final Check check = new Check();

    public static void main(String[] args) {
        SettingsTest test = new SettingsTest();
        test.promise1NewObject();
        test.promise2AddService();
        test.promise2WrongInputs();
        test.promise3AddNeed();
        test.promise3WrongInputs();
        test.promise4SetSize();
        test.promise4WrongInputs();
        test.promise5SetFrames();
        test.promise5PagesGoToTheStoreInOrder();
        test.promise5PagesGoToTheDisk();
        test.promise5Hand();
        test.promise5WrongInputs();
        test.promise6SetRoom();
        test.promise6ManyPagesGoToTheDisk();
        test.promise6WrongInputs();
        test.promise7SetLimit();
        test.promise7WrongInputs();
        test.check.end();
    }

    private void promise1NewObject() {
        Swapyard y = new Swapyard();
        check.due("new, time", 0, y.time());
        check.due("new, free", 4, y.free());
        check.due("new, hand", 0, y.hand());
        check.due("new, stored", 0, y.stored());
        check.due("new, onDisk", 0, y.onDisk());
        check.due("new, pressure", 0, y.pressure());
        check.due("new, deaths", 0, y.deaths());
        check.due("new, isSound", true, y.isSound());
        check.dueThrow("new, victim", java.util.NoSuchElementException.class, y::victim);
        check.dueThrow("new, service 0", INDEX, () -> y.stateOf(0));
        check.due("new, limit", 40, y.setLimit(40));
        check.due("new, room", 6, y.setRoom(6));
        check.due("new, frames", 4, y.setFrames(4));
        check.due("new, ticks", 0, y.tick(50));
    }

    private void promise2AddService() {
        Swapyard y = new Swapyard();
        check.due("addService, least", 0, y.addService(0, 'a', 1));
        check.due("addService, most", 1, y.addService(100, 'n', 20));
        for (int number = 2; number < 6; number++) {
            check.due("addService", number, y.addService(number, 'n', number));
        }
        check.due("the weight counts", -100, y.score(1));
        check.due("a new service runs", 'r', y.stateOf(5));
        check.due("a new service has not been started", 0, y.starts(5));
        check.due("a new service has no stalls", 0L, y.stallsOf(5));
        check.due("its pages are nowhere", 8, y.pagesIn(5, '-'));
        for (int page = 0; page < 8; page++) {
            check.due("the first size", 2, y.setSize(5, page, 2));
        }
    }

    private void promise2WrongInputs() {
        int[] weights = {-1, 101, Integer.MIN_VALUE, Integer.MAX_VALUE};
        for (int weight : weights) {
            check.dueThrowWithoutChange("addService, weight " + weight, ARGUMENT, Yards::busy,
                    y -> y.addService(weight, 'a', 1));
        }
        char[] policies = {'b', 'A', 'N', 'm', (char) 0, (char) ('a' + 256)};
        for (char policy : policies) {
            check.dueThrowWithoutChange("addService, policy " + (int) policy, ARGUMENT, Yards::busy,
                    y -> y.addService(0, policy, 1));
        }
        int[] delays = {0, -1, 21, Integer.MIN_VALUE, Integer.MAX_VALUE};
        for (int delay : delays) {
            check.dueThrowWithoutChange("addService, delay " + delay, ARGUMENT, Yards::busy,
                    y -> y.addService(0, 'a', delay));
        }
        check.dueThrowWithoutChange("addService, the 7th", STATE, Yards::full, y -> y.addService(0, 'a', 1));
        check.dueThrowWithoutChange("addService, the 7th out of range", ARGUMENT, Yards::full,
                y -> y.addService(101, 'a', 1));
        check.dueThrowWithoutChange("addService, the 7th, no such policy", ARGUMENT, Yards::full,
                y -> y.addService(0, 'x', 1));
        check.dueThrowWithoutChange("addService, the 7th, delay 0", ARGUMENT, Yards::full,
                y -> y.addService(0, 'a', 0));
    }

    private void promise3AddNeed() {
        Swapyard y = Yards.withServices(6);
        check.due("addNeed, the first", 1, y.addNeed(0, 1));
        check.due("addNeed, the second", 2, y.addNeed(0, 5));
        check.due("addNeed, once more the same", 2, y.addNeed(0, 1));
        check.due("addNeed, of another service", 1, y.addNeed(1, 2));
        check.due("addNeed, what it needs by another already", 3, y.addNeed(0, 2));
        check.due("addNeed, two need the same", 1, y.addNeed(4, 5));
        check.due("addNeed, towards a lower number", 2, y.addNeed(4, 0));
        check.due("needed", true, y.isNeeded(5));
        check.due("not needed", false, y.isNeeded(4));
        Swapyard all = Yards.withServices(6);
        for (int other = 0; other < 5; other++) {
            check.due("addNeed, all others", other + 1, all.addNeed(5, other));
        }
    }

    private void promise3WrongInputs() {
        Consumer<Swapyard> chain = y -> {
            Yards.addServices(y, 5);
            y.addNeed(0, 1);
            y.addNeed(1, 4);
            y.addNeed(4, 3);
            y.addNeed(3, 2);
        };
        int[] strange = {-1, 5, 31, 32, 37, Integer.MIN_VALUE, Integer.MAX_VALUE};
        for (int number : strange) {
            check.dueThrowWithoutChange("addNeed, service " + number, INDEX, chain, y -> y.addNeed(number, 0));
            check.dueThrowWithoutChange("addNeed, other " + number, INDEX, chain, y -> y.addNeed(0, number));
            check.dueThrowWithoutChange("addNeed, both " + number, INDEX, chain, y -> y.addNeed(number, number));
        }
        for (int number = 0; number < 5; number++) {
            int same = number;
            check.dueThrowWithoutChange("addNeed, the same " + same, ARGUMENT, chain, y -> y.addNeed(same, same));
        }
        check.dueThrowWithoutChange("addNeed, needs it itself", CYCLE, chain, y -> y.addNeed(1, 0));
        check.dueThrowWithoutChange("addNeed, needs it by one", CYCLE, chain, y -> y.addNeed(4, 0));
        check.dueThrowWithoutChange("addNeed, needs it by many", CYCLE, chain, y -> y.addNeed(2, 0));
        check.dueThrowWithoutChange("addNeed, needs it by two", CYCLE, chain, y -> y.addNeed(2, 1));
        Consumer<Swapyard> byZero = y -> {
            Yards.addServices(y, 3);
            y.addNeed(0, 1);
            y.addNeed(2, 0);
        };
        check.dueThrowWithoutChange("addNeed, needs it by service 0", CYCLE, byZero, y -> y.addNeed(1, 2));
    }

    private void promise4SetSize() {
        Swapyard y = Yards.withServices(1);
        y.setFrames(1);
        y.setRoom(4);
        check.due("setSize, nowhere", 2, y.setSize(0, 0, 4));
        check.due("setSize, the same page", 4, y.setSize(0, 0, 1));
        check.due("setSize, another page", 2, y.setSize(0, 7, 1));
        y.touch(0, 0);
        check.due("setSize, in a frame", 1, y.setSize(0, 0, 3));
        y.touch(0, 1);
        check.due("the size it has when it is taken out counts", 3, y.stored());
        check.due("setSize, of the page in the frame", 2, y.setSize(0, 1, 4));
        y.touch(0, 2);
        check.due("a page of the room's size has room", "1", Snapshot.store(y));
        check.due("setSize, on the disk", 3, y.setSize(0, 0, 4));
        check.due("setSize, on the disk once more", 4, y.setSize(0, 0, 1));
        Swapyard killed = Yards.withServices(1);
        killed.setLimit(0);
        killed.setSize(0, 3, 4);
        killed.touch(0, 3);
        killed.tick(1);
        check.due("setSize, the size stays behind a death", 4, killed.setSize(0, 3, 1));
    }

    private void promise4WrongInputs() {
        int[] strange = {-1, 8, Integer.MIN_VALUE, Integer.MAX_VALUE};
        for (int number : strange) {
            check.dueThrowWithoutChange("setSize, service " + number, INDEX, Yards::busy,
                    y -> y.setSize(number, 0, 1));
            check.dueThrowWithoutChange("setSize, page " + number, INDEX, Yards::busy,
                    y -> y.setSize(0, number, 1));
            check.dueThrowWithoutChange("setSize, page and size " + number, INDEX, Yards::busy,
                    y -> y.setSize(0, number, number));
        }
        check.dueThrowWithoutChange("setSize, the service behind the last", INDEX, Yards::busy,
                y -> y.setSize(3, 0, 1));
        int[] sizes = {0, 5, -1, Integer.MIN_VALUE, Integer.MAX_VALUE};
        for (int size : sizes) {
            check.dueThrowWithoutChange("setSize, size " + size, ARGUMENT, Yards::busy, y -> y.setSize(0, 7, size));
            check.dueThrowWithoutChange("setSize, in the store, size " + size, ARGUMENT, Yards::busy,
                    y -> y.setSize(1, 1, size));
        }
        check.dueThrowWithoutChange("setSize, in the store", STATE, Yards::busy, y -> y.setSize(1, 1, 1));
        check.dueThrowWithoutChange("setSize, in the store, the same size", STATE, Yards::busy,
                y -> y.setSize(1, 1, 2));
    }

    private void promise5SetFrames() {
        Swapyard y = Yards.withServices(1);
        check.due("setFrames, at first", 4, y.setFrames(16));
        check.due("free behind more", 16, y.free());
        check.due("setFrames, once more", 16, y.setFrames(1));
        check.due("free behind fewer", 1, y.free());
        y.touch(0, 0);
        check.due("setFrames, the same", 1, y.setFrames(1));
        check.due("the same number takes nothing out", 'f', y.placeOf(0, 0));
        check.due("setFrames, more", 1, y.setFrames(2));
        check.due("more frames take nothing out", 0, y.frameOf(0, 0));
        y.touch(0, 1);
        check.due("the new frame is used", 1, y.frameOf(0, 1));
    }

    private void promise5PagesGoToTheStoreInOrder() {
        Swapyard y = Yards.withServices(2);
        y.touch(1, 7);
        y.touch(0, 3);
        y.touch(1, 2);
        y.touch(0, 1);
        check.due("stalls ahead", 4, y.pressure());
        check.due("setFrames to 1", 4, y.setFrames(1));
        check.due("the frame that stays keeps its page", 0, y.frameOf(1, 7));
        check.due("by rising numbers of the frames", "3 10 1", Snapshot.store(y));
        check.due("without stalls for the pressure", 4, y.pressure());
        check.due("without stalls for the services", 2L, y.stallsOf(0));
        check.due("without stalls for the mean", 1.0, y.meanStalls());
        check.due("not referenced in the store", false, y.isReferenced(0, 3));
        check.due("no free frame", 0, y.free());
        y.setFrames(3);
        check.due("pages that were taken out stay out", 2, y.free());
        check.due("sound", true, y.isSound());
    }

    private void promise5PagesGoToTheDisk() {
        Swapyard y = Yards.withServices(1);
        y.setSize(0, 2, 4);
        y.setSize(0, 3, 3);
        y.setRoom(3);
        for (int page = 0; page < 4; page++) {
            y.touch(0, page);
        }
        y.setFrames(1);
        // Page 1 goes to the store, 2 is greater than the room, and 3 drives 1 out.
        check.due("the longest goes for the next", 'd', y.placeOf(0, 1));
        check.due("too great a page goes to the disk", 'd', y.placeOf(0, 2));
        check.due("the last is stored", "3", Snapshot.store(y));
        check.due("two on the disk", 2, y.onDisk());
        check.due("without stalls", 4, y.pressure());
        check.due("sound", true, y.isSound());
    }

    private void promise5Hand() {
        Swapyard y = Yards.withServices(1);
        for (int page = 0; page < 7; page++) {
            y.touch(0, page);
        }
        check.due("the hand behind three clearings", 3, y.hand());
        y.setFrames(8);
        check.due("more frames leave the hand", 3, y.hand());
        y.setFrames(4);
        check.due("the hand stays at the last frame", 3, y.hand());
        y.setFrames(3);
        check.due("the hand goes to frame 0", 0, y.hand());
        y.setFrames(4);
        check.due("the hand does not come back", 0, y.hand());
        Swapyard at = Yards.withServices(1);
        for (int page = 0; page < 6; page++) {
            at.touch(0, page);
        }
        at.setFrames(3);
        check.due("the hand stays at a frame that is left", 2, at.hand());
    }

    private void promise5WrongInputs() {
        int[] strange = {0, 17, -1, Integer.MIN_VALUE, Integer.MAX_VALUE};
        for (int frames : strange) {
            check.dueThrowWithoutChange("setFrames " + frames, ARGUMENT, Yards::busy, y -> y.setFrames(frames));
        }
    }

    private void promise6SetRoom() {
        Swapyard y = Yards.withServices(1);
        y.setFrames(1);
        for (int page = 0; page < 4; page++) {
            y.touch(0, page);
        }
        check.due("three in the store", "0 1 2", Snapshot.store(y));
        check.due("stalls ahead", 7, y.pressure());
        check.due("setRoom, at first", 6, y.setRoom(5));
        check.due("the longest goes to the disk", "1 2", Snapshot.store(y));
        check.due("it is on the disk", 'd', y.placeOf(0, 0));
        check.due("setRoom, once more", 5, y.setRoom(4));
        check.due("room just enough", "1 2", Snapshot.store(y));
        check.due("setRoom, the most", 4, y.setRoom(60));
        check.due("more room brings nothing back", "1 2", Snapshot.store(y));
        check.due("setRoom, the least", 60, y.setRoom(0));
        check.due("all go to the disk", 3, y.onDisk());
        check.due("none is stored", 0, y.stored());
        check.due("without stalls for the pressure", 7, y.pressure());
        check.due("without stalls for the service", 7L, y.stallsOf(0));
        check.due("without stalls for the mean", 1.75, y.meanStalls());
        check.due("room 0 sends each page to the disk", 6, y.touch(0, 5));
        check.due("sound", true, y.isSound());
    }

    private void promise6ManyPagesGoToTheDisk() {
        Swapyard y = Yards.withServices(6);
        y.setFrames(1);
        y.setRoom(60);
        for (int i = 0; i < 48; i++) {
            y.setSize(i / 8, i % 8, 1);
            y.touch(i / 8, i % 8);
        }
        check.due("47 in the store", 47, y.stored());
        check.due("setRoom, 42 of them leave", 60, y.setRoom(5));
        check.due("those that came last stay", "42 43 44 45 46", Snapshot.store(y));
        check.due("42 on the disk", 42, y.onDisk());
        y.setRoom(0);
        check.due("all 47 on the disk", 47, y.onDisk());
        check.due("sound", true, y.isSound());
    }

    private void promise6WrongInputs() {
        int[] strange = {-1, 61, Integer.MIN_VALUE, Integer.MAX_VALUE};
        for (int room : strange) {
            check.dueThrowWithoutChange("setRoom " + room, ARGUMENT, Yards::busy, y -> y.setRoom(room));
        }
    }

    private void promise7SetLimit() {
        Swapyard y = Yards.withServices(1);
        check.due("setLimit, at first", 40, y.setLimit(0));
        check.due("setLimit, the least", 0, y.setLimit(999));
        check.due("setLimit, the most", 999, y.setLimit(2));
        y.touch(0, 0);
        y.touch(0, 1);
        check.due("as many stalls as the limit", 0, y.tick(1));
        check.due("setLimit, back", 2, y.setLimit(1));
        check.due("more stalls than the limit", 1, y.tick(1));
    }

    private void promise7WrongInputs() {
        int[] strange = {-1, 1000, Integer.MIN_VALUE, Integer.MAX_VALUE};
        for (int limit : strange) {
            check.dueThrowWithoutChange("setLimit " + limit, ARGUMENT, Yards::busy, y -> y.setLimit(limit));
        }
    }
}
