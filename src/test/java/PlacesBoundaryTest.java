import java.util.NoSuchElementException;

/** The boundary cases of "What it is" and of "Terms" up to the store; each sentence has a test of its own. */
public final class PlacesBoundaryTest {
    private static final Class<IllegalArgumentException> ARGUMENT = IllegalArgumentException.class;
    private static final Class<IllegalStateException> STATE = IllegalStateException.class;
    private static final Class<IndexOutOfBoundsException> INDEX = IndexOutOfBoundsException.class;
    private static final Class<NoSuchElementException> ELEMENT = NoSuchElementException.class;

    private final Check check = new Check();

    public static void main(String[] args) {
        PlacesBoundaryTest test = new PlacesBoundaryTest();
        test.useAndServices();
        test.pages();
        test.touches();
        test.clock();
        test.store();
        test.check.end();
    }

    private void useAndServices() {
        check.sentence("What it is", "An object is used for at most 512 calls after it has been made",
                this::call512IsAnswered);
        check.sentence("What it is", "what later calls answer is free", this::laterCallsEndAsWell);
        check.sentence("Terms", "No page is ever in two places.", this::neverInTwoPlaces);
        check.sentence("Services", "At most 6 services are numbered from 0.", this::sixServicesFromZero);
        check.sentence("Services", "It is dead or not; at first, it is not.", this::aNewServiceIsNotDead);
        check.sentence("Services", "It runs if it is not dead and all services that it needs run.",
                this::runsWithoutNeedsAndInTheLongestChain);
        check.sentence("Services", "It is needed if a service that is not dead needs it itself.",
                this::neededByNone);
    }

    private void pages() {
        check.sentence("Pages", "A service has the pages 0 to 7.", this::pagesZeroToSeven);
        check.sentence("Pages", "A page has a size, 1 to 4, at first 2.", this::sizesOneToFour);
        check.sentence("Pages", "It is in one place: in a frame, in the store, on the disk, or nowhere, as at first.",
                this::nowhereAtFirst);
        check.sentence("Pages", "There are frames from 0 on, at first 4", this::fourFramesAtFirst);
        check.sentence("Pages", "a frame holds at most one page", this::eachFrameHoldsOnePage);
        check.sentence("Pages", "The store has a room, at first 6", this::roomSixAtFirst);
        check.sentence("Pages", "the sizes of its pages are together never more than its room",
                this::neverMoreThanTheRoom);
        check.sentence("Pages", "The disk has room for all pages.", this::diskHoldsAllPages);
    }

    private void touches() {
        check.sentence("Touches",
                "A page in a frame that is touched is referenced from then on, without a stall.",
                this::noStallInAFrame);
        check.sentence("Touches", "makes 1 stall if it was nowhere, 2 if it was in the store, and 10 if it was "
                + "on the disk", this::stallsOfEachPlace);
        check.sentence("Touches", "Another page that is touched leaves its place", this::itLeavesAheadOfTheClearing);
        check.sentence("Touches", "If no frame is free then, one is cleared by the clock.",
                this::clearedOnlyIfNoneIsFree);
        check.sentence("Touches", "Then the page comes into the lowest-numbered free frame and is referenced.",
                this::lowestFreeFrame);
    }

    private void clock() {
        check.sentence("Clock", "The hand of the clock points to a frame, at first to frame 0.",
                this::handAtFrameZeroAtFirst);
        check.sentence("Clock", "As long as the page in the frame at the hand is referenced, it is not referenced "
                + "any more from then on, and the hand goes to the next frame", this::allReferencedOnceRound);
        check.sentence("Clock", "behind the last one to frame 0", this::secondLookAtTheLastFrame);
        check.sentence("Clock", "The first page that it finds not to be referenced is taken out, and the hand goes "
                + "to the next frame once more.", this::takenOutAtTheLastFrame);
    }

    private void store() {
        check.sentence("Store", "A page that is taken out of a frame goes into the store, which makes 1 stall",
                this::intoAnEmptyStore);
        check.sentence("Store", "as long as the store has too little room for it, the page that is there longest "
                + "goes to the disk, which makes 5 stalls", this::theLongestGoWhileRoomIsTooLittle);
        check.sentence("Store", "A page whose size is greater than the room of the store goes to the disk instead, "
                + "which makes 5 stalls", this::greaterThanTheRoomByOne);
        check.sentence("Store", "the store stays as it is", this::storeStaysForATooGreatPage);
    }

    /** 511 calls that move a page some 1600 times: 56 lives of a service, each with all places. */
    private static Swapyard after511Calls() {
        Swapyard y = Yards.withServices(1);
        y.setFrames(1);
        y.setRoom(2);
        y.setLimit(0);
        for (int life = 0; life < 56; life++) {
            Yards.touchPages(y, 0, 0, 1, 2, 3, 4, 5, 6, 7);
            y.tick(1);
        }
        Yards.touchPages(y, 0, 0, 1, 2);
        return y;
    }

    private void call512IsAnswered() {
        for (int page = 0; page < 8; page++) {
            check.due("call 512, placeByEvents of page " + page, "dsf-----".charAt(page),
                    after511Calls().placeByEvents(0, page));
        }
        check.due("call 512, isSound", true, after511Calls().isSound());
        check.due("call 512, touch", 1 + 1 + 5, after511Calls().touch(0, 3));
        check.due("call 512, deaths", 56, after511Calls().deaths());
        check.due("call 512, stallsOf", 56L * (1 + 2 + 6 * 7) + 1 + 2 + 7, after511Calls().stallsOf(0));
    }

    /** Any answer will do, but not an exception of the Java machine's own (LANGUAGE.md, rule 7). */
    private void laterCallsEndAsWell() {
        Swapyard y = after511Calls();
        for (int call = 0; call < 3000; call++) {
            int page = call % 8;
            machineIsSilent("touch", () -> y.touch(0, page));
            machineIsSilent("tick", () -> y.tick(1));
            machineIsSilent("addService", () -> y.addService(0, 'a', 1));
            machineIsSilent("placeByEvents", () -> y.placeByEvents(0, page));
            machineIsSilent("storedAt", () -> y.storedAt(page));
            machineIsSilent("isSound", y::isSound);
        }
    }

    private void machineIsSilent(String name, Check.Call call) {
        check.due(name + ", thrown by the machine", false, Check.outcome(call).startsWith("the machine throws"));
    }

    private void neverInTwoPlaces() {
        Swapyard y = Yards.withServices(1);
        y.setFrames(2);
        y.setRoom(3);
        int[] pages = {0, 1, 2, 0, 3, 1, 4, 5, 0, 2, 2, 6, 7, 3, 5};
        for (int page : pages) {
            y.touch(0, page);
            inOnePlaceEach(y, 2);
        }
        y.setFrames(1);
        inOnePlaceEach(y, 1);
        y.setRoom(0);
        inOnePlaceEach(y, 1);
        Yards.kill(y, 0);
        check.due("places behind a death", "--------", Yards.places(y, 0));
        inOnePlaceEach(y, 1);
    }

    /** What the frames, the store and the disk tell of themselves is what their pages tell. */
    private void inOnePlaceEach(Swapyard y, int frames) {
        int[] pages = {0, 0, 0, 0};
        String places = Yards.places(y, 0);
        for (int page = 0; page < 8; page++) {
            pages["fsd-".indexOf(places.charAt(page))]++;
        }
        check.due("frames with a page, " + places, pages[0], frames - y.free());
        check.due("pages on the disk, " + places, pages[2], y.onDisk());
        check.due("size of the store, " + places, 2 * pages[1], y.stored());
        for (int index = 0; index < pages[1]; index++) {
            check.due("place of a page in the store, " + places, 's', places.charAt(y.storedAt(index)));
        }
        int behind = pages[1];
        check.dueThrow("storedAt behind the last, " + places, ELEMENT, () -> y.storedAt(behind));
    }

    private void sixServicesFromZero() {
        Swapyard y = new Swapyard();
        for (int number = 0; number < 6; number++) {
            int next = number;
            check.dueThrow("stateOf the next one", INDEX, () -> y.stateOf(next));
            check.due("addService", number, y.addService(0, 'a', 1));
            check.due("stateOf", 'r', y.stateOf(number));
        }
        check.dueThrow("addService, the 7th", STATE, () -> y.addService(0, 'a', 1));
        check.dueThrow("stateOf 6", INDEX, () -> y.stateOf(6));
        check.due("touch of the last one", 1, y.touch(5, 7));
    }

    private void aNewServiceIsNotDead() {
        Swapyard y = new Swapyard();
        y.addService(0, 'a', 1);
        y.addService(0, 'n', 20);
        y.tick(50);
        for (int service = 0; service < 2; service++) {
            int asked = service;
            check.due("stateOf", 'r', y.stateOf(service));
            check.due("starts", 0, y.starts(service));
            check.dueThrow("startsIn", STATE, () -> y.startsIn(asked));
        }
    }

    private void runsWithoutNeedsAndInTheLongestChain() {
        Swapyard y = new Swapyard();
        for (int service = 0; service < 6; service++) {
            y.addService(service == 5 ? 0 : 100, 'a', 2);
        }
        check.due("none needs another", "rrrrrr", Yards.states(y, 6));
        for (int service = 0; service < 5; service++) {
            y.addNeed(service, service + 1);
        }
        check.due("each needs the next", "rrrrrr", Yards.states(y, 6));
        y.touch(5, 0);
        Yards.kill(y, 5);
        check.due("the last is dead", "wwwwwd", Yards.states(y, 6));
        y.tick(1);
        check.due("the last has started", "rrrrrr", Yards.states(y, 6));
        Swapyard byZero = new Swapyard();
        byZero.addService(100, 'a', 2);
        byZero.addService(0, 'a', 2);
        byZero.addService(100, 'a', 2);
        byZero.addNeed(2, 0);
        byZero.addNeed(0, 1);
        byZero.touch(1, 0);
        Yards.kill(byZero, 1);
        check.due("by service 0", "wdw", Yards.states(byZero, 3));
    }

    private void neededByNone() {
        Swapyard y = Yards.withServices(1);
        check.due("the only one", false, y.isNeeded(0));
        Yards.addServices(y, 1);
        y.addService(100, 'a', 1);
        check.due("one of three without needs", false, y.isNeeded(2));
        y.addNeed(0, 1);
        y.addNeed(1, 2);
        check.due("by one", true, y.isNeeded(2));
        check.due("by itself never", false, y.isNeeded(0));
        Swapyard dead = new Swapyard();
        dead.addService(0, 'a', 2);
        dead.addService(9, 'a', 2);
        dead.addService(9, 'a', 2);
        dead.addNeed(0, 1);
        dead.addNeed(1, 2);
        dead.touch(0, 0);
        Yards.kill(dead, 0);
        check.due("by a dead one alone", false, dead.isNeeded(1));
        check.due("by one that is not dead", true, dead.isNeeded(2));
        Swapyard waits = new Swapyard();
        waits.addService(9, 'a', 2);
        waits.addService(0, 'a', 2);
        waits.addService(9, 'a', 2);
        waits.addNeed(0, 1);
        waits.addNeed(1, 2);
        waits.touch(1, 0);
        Yards.kill(waits, 1);
        check.due("by one that waits", true, waits.isNeeded(1));
        check.due("not itself, but by a dead one", false, waits.isNeeded(2));
    }

    private void pagesZeroToSeven() {
        Swapyard y = Yards.withServices(1);
        y.setFrames(16);
        for (int page = 0; page < 8; page++) {
            check.due("touch of page " + page, 1, y.touch(0, page));
        }
        check.due("eight pages in frames", 8, y.pagesIn(0, 'f'));
        check.due("no others", 0, y.pagesIn(0, '-'));
        check.dueThrow("touch of page -1", INDEX, () -> y.touch(0, -1));
        check.dueThrow("touch of page 8", INDEX, () -> y.touch(0, 8));
    }

    private void sizesOneToFour() {
        Swapyard y = Yards.withServices(1);
        y.setFrames(1);
        y.setRoom(60);
        for (int page = 0; page < 8; page++) {
            check.due("the first size of page " + page, 2, y.setSize(0, page, 1 + page % 4));
        }
        check.dueThrow("setSize 0", ARGUMENT, () -> y.setSize(0, 0, 0));
        check.dueThrow("setSize 5", ARGUMENT, () -> y.setSize(0, 0, 5));
        Yards.touchPages(y, 0, 0, 7);
        check.due("the least size", 1, y.stored());
        y.touch(0, 1);
        check.due("and the greatest", 1 + 4, y.stored());
        Swapyard first = Yards.withServices(1);
        first.setFrames(1);
        Yards.touchPages(first, 0, 0, 1);
        check.due("the first size counts", 2, first.stored());
    }

    private void nowhereAtFirst() {
        Swapyard y = Yards.withServices(6);
        for (int service = 0; service < 6; service++) {
            check.due("the places", "--------", Yards.places(y, service));
            check.due("pagesIn nowhere", 8, y.pagesIn(service, '-'));
        }
        check.due("placeByEvents without events", '-', y.placeByEvents(5, 7));
    }

    private void fourFramesAtFirst() {
        Swapyard y = Yards.withServices(1);
        check.due("free", 4, y.free());
        for (int frame = 0; frame < 4; frame++) {
            y.touch(0, frame);
            check.due("frameOf", frame, y.frameOf(0, frame));
        }
        check.due("the fifth page needs a clearing", 1 + 1, y.touch(0, 4));
        check.due("setFrames", 4, y.setFrames(4));
    }

    private void eachFrameHoldsOnePage() {
        int[] counts = {1, 4, 16};
        for (int frames : counts) {
            Swapyard y = Yards.withServices(6);
            y.setFrames(frames);
            boolean[] taken = new boolean[frames];
            for (int i = 0; i < 48; i++) {
                y.touch(i / 8, i % 8);
            }
            for (int i = 0; i < 48; i++) {
                if (y.placeOf(i / 8, i % 8) == 'f') {
                    int frame = y.frameOf(i / 8, i % 8);
                    check.due("frame " + frame + ", taken by another page", false, taken[frame]);
                    taken[frame] = true;
                }
            }
            check.due("free", 0, y.free());
        }
    }

    private void roomSixAtFirst() {
        Swapyard y = Yards.withServices(1);
        y.setFrames(1);
        Yards.touchPages(y, 0, 0, 1, 2, 3);
        check.due("three pages of size 2", 6, y.stored());
        check.due("none on the disk", 0, y.onDisk());
        y.touch(0, 4);
        check.due("the fourth does not fit", 1, y.onDisk());
        check.due("setRoom", 6, y.setRoom(6));
    }

    private void neverMoreThanTheRoom() {
        int[] rooms = {0, 1, 2, 3, 4, 5, 7, 59, 60};
        for (int room : rooms) {
            Swapyard y = Yards.withServices(6);
            y.setFrames(1);
            y.setRoom(room);
            for (int i = 0; i < 48; i++) {
                y.setSize(i / 8, i % 8, 1 + i % 4);
                y.touch(i / 8, i % 8);
                check.due("stored is at most " + room, true, y.stored() <= room);
            }
            check.due("sound, room " + room, true, y.isSound());
        }
        Swapyard full = Yards.withServices(6);
        full.setFrames(1);
        full.setRoom(60);
        for (int i = 0; i < 31; i++) {
            full.touch(i / 8, i % 8);
        }
        check.due("the greatest room, full", 60, full.stored());
        check.due("none on the disk", 0, full.onDisk());
        check.due("one more page of size 2", 1 + 1 + 5, full.touch(3, 7));
        check.due("full again", 60, full.stored());
    }

    /** The last page that is touched stays in a frame, so the disk never has more than 47. */
    private void diskHoldsAllPages() {
        Swapyard y = Yards.withServices(6);
        y.setFrames(1);
        y.setRoom(0);
        for (int i = 0; i < 48; i++) {
            y.setSize(i / 8, i % 8, 4);
            y.touch(i / 8, i % 8);
        }
        check.due("onDisk", 47, y.onDisk());
        for (int i = 0; i < 47; i++) {
            check.due("placeOf " + i, 'd', y.placeOf(i / 8, i % 8));
        }
    }

    private void noStallInAFrame() {
        Swapyard y = Yards.withServices(1);
        y.setFrames(2);
        Yards.touchPages(y, 0, 0, 1, 2);
        check.due("passed by the hand", false, y.isReferenced(0, 1));
        check.due("touch, not referenced, all frames full", 0, y.touch(0, 1));
        check.due("referenced from then on", true, y.isReferenced(0, 1));
        check.due("touch, referenced", 0, y.touch(0, 1));
        check.due("still referenced", true, y.isReferenced(0, 1));
        check.due("its frame", 1, y.frameOf(0, 1));
        check.due("the hand stays", 1, y.hand());
        check.due("the pressure stays", 1 + 1 + 2, y.pressure());
    }

    private void stallsOfEachPlace() {
        Swapyard y = Yards.withServices(1);
        y.setFrames(3);
        y.setRoom(2);
        check.due("nowhere", 1, y.touch(0, 0));
        Yards.touchPages(y, 0, 1, 2);
        y.setFrames(1);
        check.due("the places", "fds-----", Yards.places(y, 0));
        y.setFrames(4);
        check.due("in the store", 2, y.touch(0, 2));
        check.due("on the disk", 10, y.touch(0, 1));
        check.due("nowhere, once more", 1, y.touch(0, 3));
        check.due("the store is empty", 0, y.stored());
        check.due("the disk is empty", 0, y.onDisk());
    }

    private void itLeavesAheadOfTheClearing() {
        Swapyard y = Yards.withServices(1);
        y.setFrames(1);
        y.setSize(0, 0, 3);
        y.setSize(0, 1, 3);
        y.setRoom(3);
        Yards.touchPages(y, 0, 0, 1);
        check.due("the store is full", 3, y.stored());
        check.due("touch, its room is just enough for the other", 2 + 1, y.touch(0, 0));
        check.due("they changed places", "fs------", Yards.places(y, 0));
        check.due("none went to the disk", 0, y.onDisk());
        check.due("storedAt", 1, y.storedAt(0));
        check.dueThrow("storedAt, no second page", ELEMENT, () -> y.storedAt(1));
    }

    private void clearedOnlyIfNoneIsFree() {
        for (int frames = 1; frames <= 16; frames++) {
            Swapyard y = Yards.withServices(3);
            y.setFrames(frames);
            for (int i = 0; i < frames; i++) {
                check.due("touch with a free frame", 1, y.touch(i / 8, i % 8));
                check.due("free", frames - 1 - i, y.free());
            }
            check.due("none was cleared", 0, y.stored());
            check.due("the clock looked at none", 0, y.hand());
            for (int i = 0; i < frames; i++) {
                check.due("still referenced", true, y.isReferenced(i / 8, i % 8));
            }
            check.due("touch with all full", 1 + 1, y.touch(2, 7));
            check.due("one was cleared", 's', y.placeOf(0, 0));
            check.due("just one", 2, y.stored());
            check.due("none is free", 0, y.free());
        }
    }

    private void lowestFreeFrame() {
        Swapyard y = Yards.withServices(2);
        y.setFrames(6);
        y.touch(1, 0);
        Yards.touchPages(y, 0, 1, 2);
        y.touch(1, 3);
        Yards.touchPages(y, 0, 4, 5);
        Yards.kill(y, 0);
        int[] dueFrames = {1, 2, 4, 5};
        for (int page = 0; page < 4; page++) {
            y.touch(0, page);
            check.due("the lowest of those that are free", dueFrames[page], y.frameOf(0, page));
            check.due("referenced", true, y.isReferenced(0, page));
        }
        y.touch(0, 4);
        check.due("the only free one, that was cleared", 0, y.frameOf(0, 4));
        check.due("referenced, though its frame was cleared", true, y.isReferenced(0, 4));
    }

    private void handAtFrameZeroAtFirst() {
        Swapyard y = Yards.withServices(2);
        check.due("hand", 0, y.hand());
        Yards.touchPages(y, 0, 0, 1, 2, 3);
        check.due("hand, with all frames full", 0, y.hand());
        y.touch(1, 0);
        check.due("the page of frame 0 was the first", 's', y.placeOf(0, 0));
    }

    private void allReferencedOnceRound() {
        for (int frames = 1; frames <= 16; frames++) {
            Swapyard y = Yards.withServices(3);
            y.setFrames(frames);
            for (int i = 0; i < frames; i++) {
                y.touch(i / 8, i % 8);
            }
            y.touch(2, 7);
            check.due("frame 0 is the first behind the round", 0, y.frameOf(2, 7));
            check.due("referenced, the new one", true, y.isReferenced(2, 7));
            for (int i = 1; i < frames; i++) {
                check.due("referenced, frame " + i, false, y.isReferenced(i / 8, i % 8));
            }
            check.due("hand, " + frames + " frames", 1 % frames, y.hand());
        }
    }

    private void secondLookAtTheLastFrame() {
        Swapyard y = Yards.withServices(1);
        y.setFrames(3);
        Yards.touchPages(y, 0, 0, 1, 2, 3);
        y.touch(0, 1);
        Yards.touchPages(y, 0, 4, 5);
        check.due("hand at the last frame", 2, y.hand());
        check.due("referenced, at the last frame", true, y.isReferenced(0, 4));
        check.due("referenced, at frame 0", false, y.isReferenced(0, 3));
        y.touch(0, 6);
        check.due("a second look for the last frame", 'f', y.placeOf(0, 4));
        check.due("referenced no more", false, y.isReferenced(0, 4));
        check.due("frame 0 comes behind the last one", 0, y.frameOf(0, 6));
        check.due("hand", 1, y.hand());
    }

    private void takenOutAtTheLastFrame() {
        for (int frames = 1; frames <= 16; frames++) {
            Swapyard y = Yards.withServices(5);
            y.setFrames(frames);
            y.setRoom(60);
            for (int i = 0; i < 2 * frames; i++) {
                y.touch(i / 8, i % 8);
            }
            // The first clearing took all references and frame 0; each further one takes the next frame.
            check.due("the last frame was cleared", frames - 1, y.frameOf((2 * frames - 1) / 8,
                    (2 * frames - 1) % 8));
            check.due("the store's order is that of the frames", frames - 1, y.storedAt(frames - 1));
            check.due("hand behind the last frame, of " + frames, 0, y.hand());
        }
    }

    private void intoAnEmptyStore() {
        Swapyard y = Yards.withServices(1);
        y.setFrames(1);
        y.touch(0, 0);
        check.dueThrow("the store is empty", ELEMENT, () -> y.storedAt(0));
        check.due("touch", 1 + 1, y.touch(0, 1));
        check.due("storedAt", 0, y.storedAt(0));
        check.due("the stall counts for the touching service", 3L, y.stallsOf(0));
    }

    private void theLongestGoWhileRoomIsTooLittle() {
        int[] sizes = {1, 1, 1, 1, 2, 3, 4};
        Swapyard y = Yards.withServices(1);
        y.setFrames(1);
        y.setRoom(4);
        for (int page = 0; page < sizes.length; page++) {
            y.setSize(0, page, sizes[page]);
        }
        Yards.touchPages(y, 0, 0, 1, 2, 3);
        check.due("touch, the room is just enough", 1 + 1, y.touch(0, 4));
        check.due("the store is full", "0 1 2 3", Snapshot.store(y));
        check.due("touch, too little by 2", 1 + 1 + 2 * 5, y.touch(0, 5));
        check.due("two went, the longest first", "2 3 4", Snapshot.store(y));
        check.due("touch, too little by 3", 1 + 1 + 3 * 5, y.touch(0, 6));
        check.due("all three went, one for the last bit", "5", Snapshot.store(y));
        check.due("touch, the greatest size", 10 + 1 + 5, y.touch(0, 0));
        check.due("full with one page", "6", Snapshot.store(y));
    }

    private void greaterThanTheRoomByOne() {
        for (int size = 1; size <= 4; size++) {
            Swapyard y = Yards.withServices(1);
            y.setFrames(1);
            y.setSize(0, 0, size);
            y.setSize(0, 1, size);
            y.setRoom(size);
            Yards.touchPages(y, 0, 0);
            check.due("touch, as great as the room", 1 + 1, y.touch(0, 1));
            check.due("it went into the store", 's', y.placeOf(0, 0));
            y.setRoom(size - 1);
            check.due("touch, greater by one", 1 + 5, y.touch(0, 2));
            check.due("it went to the disk", 'd', y.placeOf(0, 1));
        }
    }

    private void storeStaysForATooGreatPage() {
        Swapyard y = Yards.withServices(1);
        y.setFrames(1);
        y.setRoom(3);
        y.setSize(0, 0, 1);
        y.setSize(0, 2, 4);
        Yards.touchPages(y, 0, 0, 1, 2);
        check.due("the store is full", "0 1", Snapshot.store(y));
        check.due("touch, a page of size 4 goes", 1 + 5, y.touch(0, 3));
        check.due("the store stays, full", "0 1", Snapshot.store(y));
        check.due("only that page is on the disk", "ssdf----", Yards.places(y, 0));
        Swapyard none = Yards.withServices(1);
        none.setFrames(1);
        none.setRoom(3);
        none.setSize(0, 0, 4);
        none.touch(0, 0);
        check.due("touch, with an empty store", 1 + 5, none.touch(0, 1));
        check.due("the store stays, empty", "", Snapshot.store(none));
    }
}
