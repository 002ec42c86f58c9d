import java.util.NoSuchElementException;
import java.util.function.Consumer;

/** Promises 8, 11 to 20, 22, 31 and 32: touches, the places of pages, and what touches cost. */
public final class TouchTest {
    private static final Class<IllegalArgumentException> ARGUMENT = IllegalArgumentException.class;
    private static final Class<IllegalStateException> STATE = IllegalStateException.class;
    private static final Class<IndexOutOfBoundsException> INDEX = IndexOutOfBoundsException.class;
    private static final Class<NoSuchElementException> ELEMENT = NoSuchElementException.class;
    private static final Class<ArithmeticException> ARITHMETIC = ArithmeticException.class;
    private static final int[] NO_PAGES = {-1, 8, Integer.MIN_VALUE, Integer.MAX_VALUE};
    private static final int[] NO_SERVICES = {-1, 3, 6, Integer.MIN_VALUE, Integer.MAX_VALUE};

    private interface PageCall {
        Object of(Swapyard y, int service, int page);
    }

    private final Check check = new Check();

    public static void main(String[] args) {
        TouchTest test = new TouchTest();
        test.promise8Stalls();
        test.promise8ThePageLeavesTheStoreFirst();
        test.promise8StoreDrivesOutTheLongest();
        test.promise8TooGreatAPageLeavesTheStoreAsItIs();
        test.promise8TheMostStalls();
        test.promise8SecondLooks();
        test.promise8TheHandPassesFramesOfOtherServices();
        test.promise8LowestFreeFrame();
        test.promise8WrongInputs();
        test.promises11And12Places();
        test.promises11And12BehindADeath();
        test.promises11To14WrongInputs();
        test.promise13FrameOf();
        test.promise14IsReferenced();
        test.promise15Hand();
        test.promise16Free();
        test.promise17Stored();
        test.promise18StoredAt();
        test.promise19OnDisk();
        test.promise20PagesIn();
        test.promise20WrongInputs();
        test.promise22StallsOf();
        test.promises31And32Means();
        test.promises22And32GreatSums();
        test.check.end();
    }

    private void promise8Stalls() {
        Swapyard y = Yards.withServices(1);
        y.setFrames(1);
        y.setRoom(2);
        check.due("touch, nowhere", 1, y.touch(0, 0));
        check.due("touch, in a frame", 0, y.touch(0, 0));
        check.due("touch, nowhere, one into the store", 2, y.touch(0, 1));
        check.due("touch, from the store, one into it", 3, y.touch(0, 0));
        check.due("touch, nowhere, one into the store, one to the disk", 7, y.touch(0, 2));
        check.due("touch, from the disk, two moved", 16, y.touch(0, 1));
        y.setFrames(3);
        check.due("touch, from the store into a free frame", 2, y.touch(0, 2));
        check.due("touch, from the disk into a free frame", 10, y.touch(0, 0));
        check.due("the frames hold all three", 3, y.pagesIn(0, 'f'));
    }

    private void promise8ThePageLeavesTheStoreFirst() {
        Swapyard y = Yards.withServices(1);
        y.setFrames(1);
        y.setRoom(4);
        y.setSize(0, 0, 4);
        y.setSize(0, 1, 4);
        y.touch(0, 0);
        y.touch(0, 1);
        check.due("the room is full", 4, y.stored());
        check.due("its own room is free for the other", 3, y.touch(0, 0));
        check.due("none went to the disk", 0, y.onDisk());
        check.due("they changed places", "1", Snapshot.store(y));
    }

    private void promise8StoreDrivesOutTheLongest() {
        Swapyard y = Yards.withServices(1);
        y.setFrames(1);
        y.setRoom(4);
        for (int page = 0; page < 4; page++) {
            y.setSize(0, page, 1);
        }
        y.setSize(0, 4, 3);
        y.setSize(0, 5, 1);
        for (int page = 0; page < 5; page++) {
            y.touch(0, page);
        }
        check.due("four small ones", "0 1 2 3", Snapshot.store(y));
        check.due("three go to the disk for a great one", 1 + 1 + 15, y.touch(0, 5));
        check.due("the last and the great one stay", "3 4", Snapshot.store(y));
        check.due("three on the disk", 3, y.onDisk());
        check.due("the first came back from the disk", 10 + 1 + 5, y.touch(0, 0));
        check.due("the next longest went", "4 5", Snapshot.store(y));
    }

    private void promise8TooGreatAPageLeavesTheStoreAsItIs() {
        Swapyard y = Yards.withServices(1);
        y.setFrames(1);
        y.setRoom(3);
        y.setSize(0, 1, 4);
        y.touch(0, 0);
        y.touch(0, 1);
        check.due("a page greater than the room", 1 + 5, y.touch(0, 2));
        check.due("it is on the disk", 'd', y.placeOf(0, 1));
        check.due("the store stays as it is", "0", Snapshot.store(y));
    }

    /** 10 from the disk, 1 into the store, and 5 for each of the four pages that have to leave it. */
    private void promise8TheMostStalls() {
        Swapyard y = Yards.withServices(2);
        Yards.beforeTheMostStalls(y);
        check.due("four small ones", "0 1 2 3", Snapshot.store(y));
        check.due("stallsOf before", 0L, y.stallsOf(1) - 1);
        int before = y.pressure();
        double sum = y.meanStalls() * 6;
        check.due("the most stalls of one touch", 31, y.touch(1, 0));
        check.due("all four went to the disk", 4, y.onDisk());
        check.due("the great one stays", "4", Snapshot.store(y));
        check.due("stallsOf, all of the 31", 31L, y.stallsOf(1) - 1);
        check.due("pressure, all of the 31", 31, y.pressure() - before);
        check.due("meanStalls, all of the 31", (sum + 31) / 7, y.meanStalls());
    }

    private void promise8SecondLooks() {
        Swapyard y = Yards.withServices(1);
        for (int page = 0; page < 4; page++) {
            check.due("into the frames by their numbers", page, touchedFrame(y, page));
        }
        check.due("all are referenced: once round", 0, touchedFrame(y, 4));
        check.due("the hand is one further", 1, y.hand());
        check.due("the others lost their reference", false, y.isReferenced(0, 3));
        y.touch(0, 1);
        check.due("a second look for 1", 2, touchedFrame(y, 5));
        check.due("page 2 went", 's', y.placeOf(0, 2));
        check.due("page 1 lost its reference", false, y.isReferenced(0, 1));
        check.due("page 4 kept its own", true, y.isReferenced(0, 4));
        check.due("the hand at the last frame", 3, y.hand());
        check.due("page 3 goes", 3, touchedFrame(y, 6));
        check.due("behind the last frame to frame 0", 0, y.hand());
        check.due("a second look for 4", 1, touchedFrame(y, 7));
        check.due("the order in which they went", "2 3 1", Snapshot.store(y));
    }

    private static int touchedFrame(Swapyard y, int page) {
        y.touch(0, page);
        return y.frameOf(0, page);
    }

    private void promise8TheHandPassesFramesOfOtherServices() {
        Swapyard y = Yards.withServices(2);
        y.setFrames(2);
        y.touch(0, 0);
        y.touch(1, 0);
        check.due("service 1 clears a frame of service 0", 2, y.touch(1, 1));
        check.due("page 0 of service 0 went", 's', y.placeOf(0, 0));
        check.due("service 0 clears a frame of service 1", 3, y.touch(0, 0));
        check.due("page 0 of service 1 went", 's', y.placeOf(1, 0));
        check.due("into its frame", 1, y.frameOf(0, 0));
    }

    private void promise8LowestFreeFrame() {
        Swapyard y = Yards.withServices(2);
        y.setLimit(0);
        y.setFrames(6);
        int[] owners = {1, 0, 0, 1, 0, 1};
        for (int page = 0; page < owners.length; page++) {
            y.touch(owners[page], page);
        }
        check.due("service 0 is killed", 0, y.victim());
        y.tick(1);
        check.due("the frames 1, 2 and 4 are free", 3, y.free());
        check.due("the lowest free frame", 1, touchedFrameOf(y, 1, 7));
        check.due("the next free frame", 2, touchedFrameOf(y, 0, 0));
        check.due("the last free frame", 4, touchedFrameOf(y, 0, 1));
    }

    private static int touchedFrameOf(Swapyard y, int service, int page) {
        y.touch(service, page);
        return y.frameOf(service, page);
    }

    private void promise8WrongInputs() {
        for (int number : NO_SERVICES) {
            check.dueThrowWithoutChange("touch, service " + number, INDEX, Yards::busy, y -> y.touch(number, 0));
        }
        for (int page : NO_PAGES) {
            check.dueThrowWithoutChange("touch, page " + page, INDEX, Yards::busy, y -> y.touch(1, page));
            check.dueThrowWithoutChange("touch, dead, page " + page, INDEX, Yards::busy, y -> y.touch(0, page));
            check.dueThrowWithoutChange("touch, waits, page " + page, INDEX, Yards::busy, y -> y.touch(2, page));
        }
        check.dueThrowWithoutChange("touch, dead", STATE, Yards::busy, y -> y.touch(0, 7));
        check.dueThrowWithoutChange("touch, waits", STATE, Yards::busy, y -> y.touch(2, 0));
        Consumer<Swapyard> waitsWithPageInFrame = y -> {
            y.addService(0, 'a', 5);
            y.addService(100, 'a', 5);
            y.addNeed(1, 0);
            y.touch(1, 0);
            y.touch(0, 0);
            y.setLimit(0);
            y.tick(1);
        };
        check.dueThrowWithoutChange("touch, waits, in a frame", STATE, waitsWithPageInFrame, y -> y.touch(1, 0));
    }

    private void promises11And12Places() {
        Swapyard y = new Swapyard();
        Yards.busy(y);
        String[] due = {"--------", "dsff----", "--------"};
        for (int service = 0; service < 3; service++) {
            for (int page = 0; page < 8; page++) {
                String name = "(" + service + ", " + page + ")";
                check.due("placeOf" + name, due[service].charAt(page), y.placeOf(service, page));
                check.due("placeByEvents" + name, due[service].charAt(page), y.placeByEvents(service, page));
            }
        }
        y.touch(1, 0);
        y.setRoom(0);
        String behind = "fddf----";
        for (int page = 0; page < 8; page++) {
            check.due("placeOf behind more", behind.charAt(page), y.placeOf(1, page));
            check.due("placeByEvents behind more", behind.charAt(page), y.placeByEvents(1, page));
        }
        y.setFrames(1);
        check.due("placeOf behind fewer frames", 'd', y.placeOf(1, 3));
        check.due("placeByEvents behind fewer frames", 'd', y.placeByEvents(1, 3));
    }

    private void promises11And12BehindADeath() {
        Swapyard y = new Swapyard();
        Yards.busy(y);
        y.setLimit(0);
        check.due("service 1 is killed", 1, y.victim());
        y.tick(1);
        for (int page = 0; page < 8; page++) {
            check.due("placeOf behind a death", '-', y.placeOf(1, page));
            check.due("placeByEvents behind a death", '-', y.placeByEvents(1, page));
        }
        check.due("sound", true, y.isSound());
    }

    private void promises11To14WrongInputs() {
        wrongPages("placeOf", (y, service, page) -> y.placeOf(service, page));
        wrongPages("placeByEvents", (y, service, page) -> y.placeByEvents(service, page));
        wrongPages("frameOf", (y, service, page) -> y.frameOf(service, page));
        wrongPages("isReferenced", (y, service, page) -> y.isReferenced(service, page));
    }

    private void wrongPages(String name, PageCall call) {
        for (int number : NO_SERVICES) {
            check.dueThrowWithoutChange(name + ", service " + number, INDEX, Yards::busy,
                    y -> call.of(y, number, 0));
        }
        for (int page : NO_PAGES) {
            check.dueThrowWithoutChange(name + ", page " + page, INDEX, Yards::busy, y -> call.of(y, 1, page));
        }
        check.dueThrow(name + ", no services", INDEX, () -> call.of(new Swapyard(), 0, 0));
    }

    private void promise13FrameOf() {
        Swapyard y = new Swapyard();
        Yards.busy(y);
        check.due("frameOf, the first", 0, y.frameOf(1, 2));
        check.due("frameOf, the second", 1, y.frameOf(1, 3));
        check.dueThrowWithoutChange("frameOf, on the disk", ELEMENT, Yards::busy, z -> z.frameOf(1, 0));
        check.dueThrowWithoutChange("frameOf, in the store", ELEMENT, Yards::busy, z -> z.frameOf(1, 1));
        check.dueThrowWithoutChange("frameOf, nowhere", ELEMENT, Yards::busy, z -> z.frameOf(1, 4));
        check.dueThrowWithoutChange("frameOf, dead", ELEMENT, Yards::busy, z -> z.frameOf(0, 7));
        Swapyard wide = Yards.withServices(2);
        wide.setFrames(16);
        for (int i = 0; i < 16; i++) {
            wide.touch(i / 8, i % 8);
        }
        check.due("frameOf, the last of 16", 15, wide.frameOf(1, 7));
    }

    private void promise14IsReferenced() {
        Swapyard y = Yards.withServices(1);
        y.setFrames(2);
        check.due("nowhere", false, y.isReferenced(0, 0));
        y.touch(0, 0);
        y.touch(0, 1);
        check.due("in a frame", true, y.isReferenced(0, 0));
        y.touch(0, 2);
        check.due("in the store", false, y.isReferenced(0, 0));
        check.due("passed by the hand", false, y.isReferenced(0, 1));
        check.due("just come in", true, y.isReferenced(0, 2));
        y.touch(0, 1);
        check.due("touched again", true, y.isReferenced(0, 1));
        y.setLimit(0);
        y.tick(1);
        check.due("behind a death", false, y.isReferenced(0, 1));
        check.due("ticks alone take no reference", true, tickedReference());
    }

    private static boolean tickedReference() {
        Swapyard y = Yards.withServices(1);
        y.touch(0, 0);
        y.tick(50);
        return y.isReferenced(0, 0);
    }

    private void promise15Hand() {
        Swapyard y = Yards.withServices(1);
        y.setFrames(2);
        check.due("hand, at first", 0, y.hand());
        y.touch(0, 0);
        y.touch(0, 1);
        check.due("hand, nothing cleared", 0, y.hand());
        y.touch(0, 2);
        check.due("hand, behind frame 0", 1, y.hand());
        y.touch(0, 3);
        check.due("hand, back at frame 0", 0, y.hand());
        Swapyard one = Yards.withServices(1);
        one.setFrames(1);
        one.touch(0, 0);
        one.touch(0, 1);
        check.due("hand, of one frame", 0, one.hand());
        Swapyard killed = new Swapyard();
        killed.addService(0, 'a', 1);
        killed.setLimit(0);
        for (int page = 0; page < 6; page++) {
            killed.touch(0, page);
        }
        killed.tick(1);
        check.due("hand, a death leaves it", 2, killed.hand());
    }

    private void promise16Free() {
        Swapyard y = Yards.withServices(1);
        for (int page = 0; page < 4; page++) {
            check.due("free", 4 - page, y.free());
            y.touch(0, page);
        }
        check.due("free, none", 0, y.free());
        y.touch(0, 4);
        check.due("free, still none", 0, y.free());
        y.setFrames(16);
        check.due("free, of 16", 12, y.free());
        y.setFrames(3);
        check.due("free, of 3", 0, y.free());
        y.setLimit(0);
        y.tick(1);
        check.due("free, behind a death", 3, y.free());
    }

    private void promise17Stored() {
        Swapyard y = Yards.withServices(2);
        y.setFrames(1);
        y.setRoom(60);
        int[] sizes = {4, 3, 1};
        int sum = 0;
        for (int page = 0; page < sizes.length; page++) {
            y.setSize(0, page, sizes[page]);
            y.touch(0, page);
            check.due("stored", sum, y.stored());
            sum += sizes[page];
        }
        y.touch(1, 0);
        check.due("stored, all three", 8, y.stored());
        y.touch(0, 1);
        check.due("stored, one changed for another", 8 - 3 + 2, y.stored());
    }

    private void promise18StoredAt() {
        Swapyard y = Yards.withServices(6);
        y.setFrames(1);
        y.setRoom(60);
        check.dueThrow("storedAt, an empty store", ELEMENT, () -> y.storedAt(0));
        y.touch(5, 7);
        y.touch(0, 0);
        y.touch(2, 3);
        y.touch(1, 1);
        check.due("storedAt, the longest", 47, y.storedAt(0));
        check.due("storedAt, the next", 0, y.storedAt(1));
        check.due("storedAt, the last", 19, y.storedAt(2));
        int[] strange = {3, -1, Integer.MIN_VALUE, Integer.MAX_VALUE};
        for (int index : strange) {
            check.dueThrow("storedAt " + index, ELEMENT, () -> y.storedAt(index));
        }
        y.touch(0, 0);
        check.due("one leaves the middle", "47 19 9", Snapshot.store(y));
        y.touch(5, 7);
        check.due("one leaves the front and one comes behind", "19 9 0", Snapshot.store(y));
        y.touch(2, 3);
        check.due("one that comes again is the last", "9 0 47", Snapshot.store(y));
        check.dueThrowWithoutChange("storedAt, behind the last", ELEMENT, Yards::busy, z -> z.storedAt(1));
        check.dueThrowWithoutChange("storedAt, ahead of the first", ELEMENT, Yards::busy, z -> z.storedAt(-1));
    }

    private void promise19OnDisk() {
        Swapyard y = Yards.withServices(2);
        y.setFrames(1);
        y.setRoom(0);
        check.due("onDisk, none", 0, y.onDisk());
        for (int i = 0; i < 16; i++) {
            y.touch(i / 8, i % 8);
            check.due("onDisk", i, y.onDisk());
        }
        y.touch(0, 0);
        check.due("onDisk, one changed for another", 15, y.onDisk());
        y.setLimit(0);
        y.tick(1);
        check.due("onDisk, service 0 lost its pages", 8, y.onDisk());
    }

    private void promise20PagesIn() {
        Swapyard y = new Swapyard();
        Yards.busy(y);
        check.due("pagesIn, frames", 2, y.pagesIn(1, 'f'));
        check.due("pagesIn, store", 1, y.pagesIn(1, 's'));
        check.due("pagesIn, disk", 1, y.pagesIn(1, 'd'));
        check.due("pagesIn, nowhere", 4, y.pagesIn(1, '-'));
        check.due("pagesIn, dead", 8, y.pagesIn(0, '-'));
        check.due("pagesIn, of another", 0, y.pagesIn(2, 'f'));
    }

    private void promise20WrongInputs() {
        for (int number : NO_SERVICES) {
            check.dueThrowWithoutChange("pagesIn, service " + number, INDEX, Yards::busy,
                    y -> y.pagesIn(number, 'f'));
            check.dueThrowWithoutChange("pagesIn, no such place, service " + number, INDEX, Yards::busy,
                    y -> y.pagesIn(number, 'x'));
        }
        char[] places = {'x', 'F', 'S', 'D', (char) 0, ' ', '_', 'e', 'g', (char) ('f' + 256), Character.MAX_VALUE};
        for (char place : places) {
            check.dueThrowWithoutChange("pagesIn, place " + (int) place, ARGUMENT, Yards::busy,
                    y -> y.pagesIn(1, place));
        }
    }

    private void promise22StallsOf() {
        Swapyard y = Yards.withServices(2);
        y.setFrames(1);
        y.touch(0, 0);
        y.touch(1, 0);
        check.due("stallsOf, its own", 1L, y.stallsOf(0));
        check.due("stallsOf, those of clearing included", 2L, y.stallsOf(1));
        y.touch(1, 0);
        check.due("stallsOf, without a stall", 2L, y.stallsOf(1));
        y.touch(0, 0);
        check.due("stallsOf, one more", 4L, y.stallsOf(0));
        y.setLimit(0);
        y.tick(50);
        check.due("one was killed", 1, y.deaths());
        check.due("stallsOf, deaths and ticks leave it", 4L, y.stallsOf(0));
        y.touch(0, 0);
        check.due("stallsOf, it goes on behind a death", 5L, y.stallsOf(0));
        for (int number : NO_SERVICES) {
            check.dueThrowWithoutChange("stallsOf, service " + number, INDEX, Yards::busy, z -> z.stallsOf(number));
        }
    }

    private void promises31And32Means() {
        check.dueThrowWithoutChange("smoothShare, no touches", ARITHMETIC, z -> Yards.addServices(z, 1),
                Swapyard::smoothShare);
        check.dueThrowWithoutChange("meanStalls, no touches", ARITHMETIC, z -> Yards.addServices(z, 1),
                Swapyard::meanStalls);
        Swapyard y = Yards.withServices(2);
        y.touch(0, 0);
        check.due("smoothShare, none of 1", 0f, y.smoothShare());
        check.due("meanStalls, 1 of 1", 1.0, y.meanStalls());
        y.touch(0, 0);
        y.touch(1, 0);
        check.due("smoothShare, 1 of 3", 1f / 3f, y.smoothShare());
        check.due("meanStalls, 2 of 3", 2.0 / 3.0, y.meanStalls());
        check.dueThrow("touch, no such page", INDEX, () -> y.touch(0, 8));
        check.due("smoothShare, a touch that throws does not count", 1f / 3f, y.smoothShare());
        y.touch(1, 0);
        y.touch(1, 0);
        y.touch(0, 0);
        y.touch(0, 0);
        check.due("smoothShare, 5 of 7", 5f / 7f, y.smoothShare());
        check.due("meanStalls, 2 of 7", 2.0 / 7.0, y.meanStalls());
        y.setLimit(0);
        y.tick(50);
        check.due("smoothShare, deaths leave it", 5f / 7f, y.smoothShare());
        check.due("meanStalls, deaths leave it", 2.0 / 7.0, y.meanStalls());
    }

    private void promises22And32GreatSums() {
        Swapyard y = Yards.withServices(1);
        y.setFrames(1);
        y.setRoom(0);
        y.touch(0, 0);
        y.touch(0, 1);
        for (int i = 0; i < 200; i++) {
            check.due("touch, one from the disk for one to the disk", 15, y.touch(0, i % 2));
        }
        check.due("stallsOf, over 3000", 1L + 6L + 200L * 15L, y.stallsOf(0));
        check.due("meanStalls, over 3000 of 202", 3007.0 / 202.0, y.meanStalls());
        check.due("smoothShare, none of 202", 0f, y.smoothShare());
        for (int i = 0; i < 101; i++) {
            y.touch(0, 1);
        }
        check.due("smoothShare, 101 of 303", 101f / 303f, y.smoothShare());
        check.due("meanStalls, over 3000 of 303", 3007.0 / 303.0, y.meanStalls());
    }
}
