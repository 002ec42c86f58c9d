/** The ranges that the promises tell, and the ends of what they answer; each sentence has a test of its own. */
public final class AnswersBoundaryTest {
    private static final Class<IllegalArgumentException> ARGUMENT = IllegalArgumentException.class;
    private static final Class<IndexOutOfBoundsException> INDEX = IndexOutOfBoundsException.class;

    private final Check check = new Check();

    public static void main(String[] args) {
        AnswersBoundaryTest test = new AnswersBoundaryTest();
        test.promises1To4();
        test.promises5To7();
        test.promises8To14();
        test.promises15To22();
        test.promises23To32();
        test.check.end();
    }

    private void promises1To4() {
        check.sentence("Promise 1", "Creates a manager without services, at tick 0.", this::promise1Empty);
        check.sentence("Promise 2", "`weight`: the weight, 0 to 100", this::promise2Weights);
        check.sentence("Promise 2", "`policy`: the policy, 'a' or 'n'", this::promise2Policies);
        check.sentence("Promise 2", "`delay`: the delay, 1 to 20", this::promise2Delays);
        check.sentence("Promise 2", "Returns the number of the service.", this::promise2Numbers);
        check.sentence("Promise 3", "Returns how many services it needs itself, each one counted once.",
                this::promise3CountedOnce);
        check.sentence("Promise 4", "`page`: the page, 0 to 7", this::promise4Pages);
        check.sentence("Promise 4", "`size`: the size, 1 to 4", this::promise4Sizes);
        check.sentence("Promise 4", "Returns the size before the call.", this::promise4SizeBefore);
    }

    private void promises5To7() {
        check.sentence("Promise 5", "If it becomes less, the pages in frames that are no more there are taken out",
                this::promise5OnlyIfLess);
        check.sentence("Promise 5", "by rising numbers of the frames", this::promise5RisingNumbers);
        check.sentence("Promise 5", "go into the store or to the disk as told", this::promise5StoreOrDisk);
        check.sentence("Promise 5", "without stalls", this::promise5WithoutStalls);
        check.sentence("Promise 5", "the hand goes to frame 0 if its frame is no more there", this::promise5Hand);
        check.sentence("Promise 5", "`frames`: the number of frames, 1 to 16", this::promise5Range);
        check.sentence("Promise 6", "As long as its pages have too little room, the one that is there longest goes "
                + "to the disk", this::promise6TooLittleRoom);
        check.sentence("Promise 6", "without stalls", this::promise6WithoutStalls);
        check.sentence("Promise 6", "`room`: the room, 0 to 60", this::promise6Range);
        check.sentence("Promise 7", "`limit`: the limit, 0 to 999", this::promise7Range);
    }

    private void promises8To14() {
        check.sentence("Promise 8", "Returns the number of all stalls that this makes, those of clearing a frame "
                + "for it included.", this::promise8LeastAndMost);
        check.sentence("Promise 8", "`page`: the page, 0 to 7", this::promise8Pages);
        check.sentence("Promise 9", "`ticks`: the number of ticks, 1 to 50", this::promise9Range);
        check.sentence("Promise 9", "Returns the number of services that are killed.", this::promise9Killed);
        check.sentence("Promise 10", "Returns the number of ticks.", this::promise10Ticks);
        check.sentence("Promise 11", "`page`: the page, 0 to 7", this::promise11Pages);
        check.sentence("Promise 12", "found by going through all that happened to pages so far",
                this::promise12NothingAndEachEvent);
        check.sentence("Promise 12", "`page`: the page, 0 to 7", this::promise12Pages);
        check.sentence("Promise 13", "`page`: the page, 0 to 7", this::promise13Pages);
        check.sentence("Promise 13", "Returns the number of the frame.", this::promise13FirstAndLastFrame);
        check.sentence("Promise 14", "`page`: the page, 0 to 7", this::promise14Pages);
        check.sentence("Promise 14", "Returns whether it is, false if it is in no frame.", this::promise14InNoFrame);
    }

    private void promises15To22() {
        check.sentence("Promise 15", "Returns the number of the frame.", this::promise15EachFrame);
        check.sentence("Promise 16", "Returns the number of free frames.", this::promise16AllAndNone);
        check.sentence("Promise 17", "Returns the sum of their sizes.", this::promise17EmptyAndFull);
        check.sentence("Promise 18", "the index in the order in which they came there, from 0 for the one that is "
                + "there longest", this::promise18FirstAndLast);
        check.sentence("Promise 18", "Returns 8 times the number of its service, plus the page.",
                this::promise18LeastAndGreatest);
        check.sentence("Promise 19", "Returns the number of pages on the disk.", this::promise19NoneAndMost);
        check.sentence("Promise 20", "`place`: the place, 'f', 's', 'd' or '-'", this::promise20EachPlace);
        check.sentence("Promise 20", "Returns the number of pages of a service that are in a place.",
                this::promise20NoneAndAll);
        check.sentence("Promise 21", "Returns the stalls that count for the pressure now.",
                this::promise21NoneAndForgotten);
        check.sentence("Promise 22", "Returns the stalls that touches of the pages of a service made so far, those "
                + "of clearing frames for them included.", this::promise22NoneAndRefused);
    }

    private void promises23To32() {
        check.sentence("Promise 23", "Returns 'r' if it runs, 'd' if it is dead, 'w' otherwise.",
                this::promise23DeadAndWaiting);
        check.sentence("Promise 24", "Returns the lowest-numbered service that a service needs itself and that does "
                + "not run.", this::promise24Lowest);
        check.sentence("Promise 25", "Returns whether a service is needed.", this::promise25FirstAndLast);
        check.sentence("Promise 26", "Returns the number of ticks, at least 1.", this::promise26AtLeastOne);
        check.sentence("Promise 27", "Returns the number of starts of a service, those behind its deaths.",
                this::promise27NoneAtFirst);
        check.sentence("Promise 28", "Returns the score.", this::promise28BelowZero);
        check.sentence("Promise 29", "Returns the service that would be the victim now.", this::promise29IsTheNext);
        check.sentence("Promise 30", "Returns the number of services that were killed so far.",
                this::promise30EachDeath);
        check.sentence("Promise 31", "Returns their number divided by that of all touches, both converted to float.",
                this::promise31NoneToNearlyAll);
        check.sentence("Promise 32", "Returns the sum of all stalls of touches divided by the number of touches, "
                + "both converted to double.", this::promise32OneTouchAndMany);
    }

    private void promise1Empty() {
        Swapyard y = new Swapyard();
        check.dueThrow("stateOf 0", INDEX, () -> y.stateOf(0));
        check.due("time", 0, y.time());
        check.due("deaths", 0, y.deaths());
        check.due("pressure", 0, y.pressure());
        check.due("onDisk", 0, y.onDisk());
        check.due("stored", 0, y.stored());
        check.due("isSound", true, y.isSound());
        check.due("another object has its own services", 0, Yards.withServices(3).onDisk());
        check.dueThrow("stateOf 0, still", INDEX, () -> y.stateOf(0));
        check.due("the first service", 0, y.addService(0, 'a', 1));
    }

    private void promise2Weights() {
        int[] weights = {0, 1, 50, 99, 100};
        Swapyard y = new Swapyard();
        for (int i = 0; i < weights.length; i++) {
            y.addService(weights[i], 'a', 1);
            check.due("score, weight " + weights[i], -weights[i], y.score(i));
        }
        check.dueThrow("addService, too small", ARGUMENT, () -> y.addService(-1, 'a', 1));
        check.dueThrow("addService, too large", ARGUMENT, () -> y.addService(101, 'a', 1));
    }

    private void promise2Policies() {
        char[] policies = {'a', 'n'};
        for (char policy : policies) {
            Swapyard y = new Swapyard();
            check.due("addService", 0, y.addService(0, policy, 1));
            y.touch(0, 0);
            Yards.kill(y, 0);
            y.tick(50);
            check.due("stateOf, policy " + policy, policy == 'a' ? 'r' : 'd', y.stateOf(0));
        }
        check.dueThrow("addService, another one", ARGUMENT, () -> new Swapyard().addService(0, 'd', 1));
    }

    private void promise2Delays() {
        for (int delay = 1; delay <= 20; delay++) {
            Swapyard y = new Swapyard();
            y.addService(0, 'n', delay);
            y.touch(0, 0);
            Yards.kill(y, 0);
            check.due("startsIn, delay " + delay, Math.max(1, delay - 1), y.startsIn(0));
        }
        check.dueThrow("addService, too small", ARGUMENT, () -> new Swapyard().addService(0, 'n', 0));
        check.dueThrow("addService, too large", ARGUMENT, () -> new Swapyard().addService(0, 'n', 21));
    }

    private void promise2Numbers() {
        Swapyard y = new Swapyard();
        for (int number = 0; number < 6; number++) {
            check.dueThrow("addService, refused", ARGUMENT, () -> y.addService(0, 'x', 1));
            check.due("addService", number, y.addService(0, 'a', 1));
        }
    }

    private void promise3CountedOnce() {
        Swapyard y = Yards.withServices(6);
        for (int other = 1; other < 6; other++) {
            check.due("addNeed", other, y.addNeed(0, other));
            check.due("addNeed, once more the same", other, y.addNeed(0, other));
            check.due("addNeed, once more the first", other, y.addNeed(0, 1));
        }
        check.due("addNeed, the first of another", 1, y.addNeed(1, 5));
        Swapyard chain = Yards.withServices(3);
        chain.addNeed(1, 2);
        check.due("those of the other do not count", 1, chain.addNeed(0, 1));
    }

    private void promise4Pages() {
        Swapyard y = Yards.withServices(1);
        for (int page = 0; page < 8; page++) {
            check.due("setSize, page " + page, 2, y.setSize(0, page, 3));
        }
        check.dueThrow("setSize, too small", INDEX, () -> y.setSize(0, -1, 3));
        check.dueThrow("setSize, too large", INDEX, () -> y.setSize(0, 8, 3));
    }

    private void promise4Sizes() {
        for (int size = 1; size <= 4; size++) {
            Swapyard y = Yards.withServices(1);
            y.setFrames(1);
            y.setSize(0, 0, size);
            Yards.touchPages(y, 0, 0, 1);
            check.due("stored, size " + size, size, y.stored());
        }
        check.dueThrow("setSize, too small", ARGUMENT, () -> Yards.withServices(1).setSize(0, 0, 0));
        check.dueThrow("setSize, too large", ARGUMENT, () -> Yards.withServices(1).setSize(0, 0, 5));
    }

    private void promise4SizeBefore() {
        Swapyard y = Yards.withServices(1);
        check.due("setSize, at first", 2, y.setSize(0, 0, 4));
        check.due("setSize, the same", 4, y.setSize(0, 0, 4));
        check.dueThrow("setSize, refused", ARGUMENT, () -> y.setSize(0, 0, 5));
        check.due("setSize, the most", 4, y.setSize(0, 0, 1));
        check.due("setSize, the least", 1, y.setSize(0, 0, 2));
        check.due("setSize, another page", 2, y.setSize(0, 1, 2));
    }

    private void promise5OnlyIfLess() {
        Swapyard y = Yards.withServices(1);
        Yards.touchPages(y, 0, 0, 1, 2, 3);
        check.due("setFrames, the same", 4, y.setFrames(4));
        check.due("the same takes none out", "ffff----", Yards.places(y, 0));
        check.due("setFrames, more by one", 4, y.setFrames(5));
        check.due("more takes none out", "ffff----", Yards.places(y, 0));
        check.due("setFrames, less by an empty one", 5, y.setFrames(4));
        check.due("none was in it", "ffff----", Yards.places(y, 0));
        check.due("setFrames, less by a full one", 4, y.setFrames(3));
        check.due("the last one is taken out", "fffs----", Yards.places(y, 0));
        check.due("not referenced in the store", false, y.isReferenced(0, 3));
        check.due("setFrames, one", 3, y.setFrames(1));
        check.due("all but the first are taken out", "fsss----", Yards.places(y, 0));
        check.due("setFrames, all", 1, y.setFrames(16));
        check.due("none comes back", "fsss----", Yards.places(y, 0));
        check.due("free", 15, y.free());
    }

    private void promise5RisingNumbers() {
        Swapyard y = Yards.withServices(2);
        y.setFrames(16);
        y.setRoom(60);
        for (int i = 15; i >= 0; i--) {
            y.touch(i / 8, i % 8);
        }
        y.setFrames(1);
        check.due("from frame 1 to frame 15", "14 13 12 11 10 9 8 7 6 5 4 3 2 1 0", Snapshot.store(y));
    }

    private void promise5StoreOrDisk() {
        Swapyard y = Yards.withServices(1);
        y.setSize(0, 2, 4);
        y.setSize(0, 3, 3);
        y.setSize(0, 5, 1);
        y.setRoom(3);
        y.setFrames(6);
        Yards.touchPages(y, 0, 0, 1, 2, 3, 4, 5);
        y.setFrames(5);
        check.due("into an empty store", "fffffs--", Yards.places(y, 0));
        y.setFrames(4);
        check.due("into just enough room", "5 4", Snapshot.store(y));
        y.setFrames(3);
        check.due("as great as the room, the longest go", "fffsdd--", Yards.places(y, 0));
        y.setFrames(2);
        check.due("greater than the room", "ffdsdd--", Yards.places(y, 0));
        check.due("the store stays as it is", "3", Snapshot.store(y));
        y.setRoom(0);
        y.setFrames(1);
        check.due("room 0", "fddddd--", Yards.places(y, 0));
    }

    private void promise5WithoutStalls() {
        Swapyard y = Yards.withServices(1);
        y.setRoom(2);
        Yards.touchPages(y, 0, 0, 1, 2, 3);
        y.setFrames(1);
        check.due("the store and the disk were used", "fdds----", Yards.places(y, 0));
        check.due("pressure", 4, y.pressure());
        check.due("stallsOf", 4L, y.stallsOf(0));
        check.due("meanStalls", 1.0, y.meanStalls());
        y.setLimit(4);
        check.due("tick", 0, y.tick(1));
    }

    /** Four frames with the hand at the given one. */
    private static Swapyard withHandAt(int frame) {
        Swapyard y = Yards.withServices(2);
        for (int i = 0; i < 4 + frame; i++) {
            y.touch(i / 8, i % 8);
        }
        return y;
    }

    private void promise5Hand() {
        for (int hand = 1; hand < 4; hand++) {
            for (int frames = 1; frames <= 5; frames++) {
                Swapyard y = withHandAt(hand);
                check.due("hand", hand, y.hand());
                y.setFrames(frames);
                check.due("hand, was at " + hand + " of " + frames, hand < frames ? hand : 0, y.hand());
            }
        }
        Swapyard y = withHandAt(3);
        y.setFrames(3);
        y.setFrames(4);
        check.due("it does not come back", 0, y.hand());
    }

    private void promise5Range() {
        Swapyard y = Yards.withServices(3);
        check.due("setFrames, the least", 4, y.setFrames(1));
        check.due("free, of 1", 1, y.free());
        check.due("setFrames, the most", 1, y.setFrames(16));
        check.due("free, of 16", 16, y.free());
        check.dueThrow("setFrames, too small", ARGUMENT, () -> y.setFrames(0));
        check.dueThrow("setFrames, too large", ARGUMENT, () -> y.setFrames(17));
        check.due("setFrames, still the most", 16, y.setFrames(4));
    }

    private void promise6TooLittleRoom() {
        Swapyard y = Yards.withServices(1);
        y.setFrames(1);
        y.setRoom(60);
        int[] sizes = {4, 1, 3, 2};
        for (int page = 0; page < 4; page++) {
            y.setSize(0, page, sizes[page]);
        }
        Yards.touchPages(y, 0, 0, 1, 2, 3, 4);
        y.setRoom(10);
        check.due("room just enough", "0 1 2 3", Snapshot.store(y));
        y.setRoom(9);
        check.due("too little by one", "1 2 3", Snapshot.store(y));
        y.setRoom(6);
        check.due("just enough again", "1 2 3", Snapshot.store(y));
        y.setRoom(2);
        check.due("two go", "3", Snapshot.store(y));
        y.setRoom(1);
        check.due("the last goes", "", Snapshot.store(y));
        check.due("places", "ddddf---", Yards.places(y, 0));
        y.setRoom(60);
        check.due("none comes back", "ddddf---", Yards.places(y, 0));
    }

    private void promise6WithoutStalls() {
        Swapyard y = Yards.withServices(1);
        y.setFrames(1);
        Yards.touchPages(y, 0, 0, 1, 2);
        y.setRoom(0);
        check.due("two went", 2, y.onDisk());
        check.due("pressure", 1 + 2 + 2, y.pressure());
        check.due("stallsOf", 5L, y.stallsOf(0));
        check.due("meanStalls", 5.0 / 3.0, y.meanStalls());
    }

    private void promise6Range() {
        Swapyard y = Yards.withServices(1);
        y.setFrames(1);
        check.due("setRoom, the least", 6, y.setRoom(0));
        y.setSize(0, 0, 1);
        y.touch(0, 0);
        check.due("room 0 is too little for size 1", 1 + 5, y.touch(0, 1));
        check.due("setRoom, the most", 0, y.setRoom(60));
        check.dueThrow("setRoom, too small", ARGUMENT, () -> y.setRoom(-1));
        check.dueThrow("setRoom, too large", ARGUMENT, () -> y.setRoom(61));
        check.due("setRoom, still the most", 60, y.setRoom(6));
    }

    /** Three or four pages are in frames, one more comes and goes by the disk: 15 stalls with each touch. */
    private static Swapyard withManyStalls(int frames) {
        Swapyard y = Yards.withServices(1);
        y.setRoom(0);
        y.setFrames(frames);
        for (int touch = 0; touch < frames + 1 + 66; touch++) {
            y.touch(0, touch % (frames + 1));
        }
        return y;
    }

    private void promise7Range() {
        Swapyard y = withManyStalls(3);
        check.due("setLimit, the most", 40, y.setLimit(999));
        check.due("pressure", 3 + 6 + 66 * 15, y.pressure());
        check.due("tick, 999 stalls", 0, y.tick(1));
        Swapyard more = withManyStalls(4);
        more.setLimit(999);
        check.due("pressure", 1000, more.pressure());
        check.due("tick, 1000 stalls", 1, more.tick(1));
        check.due("setLimit, the least", 999, more.setLimit(0));
        check.due("tick, no stalls", 0, more.tick(1));
        more.touch(0, 0);
        check.due("tick, one stall", 1, more.tick(1));
        check.dueThrow("setLimit, too small", ARGUMENT, () -> more.setLimit(-1));
        check.dueThrow("setLimit, too large", ARGUMENT, () -> more.setLimit(1000));
        check.due("setLimit, still the least", 0, more.setLimit(40));
    }

    private void promise8LeastAndMost() {
        Swapyard y = Yards.withServices(1);
        y.setFrames(1);
        y.setRoom(4);
        for (int page = 0; page < 5; page++) {
            y.setSize(0, page, 1);
        }
        y.setSize(0, 5, 4);
        Yards.touchPages(y, 0, 0, 1, 2, 3, 4, 5);
        check.due("touch, the least", 0, y.touch(0, 5));
        check.due("a full store, and one on the disk", "dssssf--", Yards.places(y, 0));
        check.due("touch, the most", 10 + 1 + 4 * 5, y.touch(0, 0));
        check.due("the four went for the one", "fdddds--", Yards.places(y, 0));
    }

    private void promise8Pages() {
        Swapyard y = Yards.withServices(1);
        check.due("touch, the first", 1, y.touch(0, 0));
        check.due("touch, the last", 1, y.touch(0, 7));
        check.due("places", "f------f", Yards.places(y, 0));
        check.dueThrow("touch, too small", INDEX, () -> y.touch(0, -1));
        check.dueThrow("touch, too large", INDEX, () -> y.touch(0, 8));
    }

    private void promise9Range() {
        Swapyard y = new Swapyard();
        y.tick(1);
        check.due("time, the least", 1, y.time());
        y.tick(50);
        check.due("time, the most", 51, y.time());
        check.dueThrow("tick, too small", ARGUMENT, () -> y.tick(0));
        check.dueThrow("tick, too large", ARGUMENT, () -> y.tick(51));
        check.due("time, still", 51, y.time());
    }

    private void promise9Killed() {
        Swapyard y = Yards.withServices(2);
        check.due("tick, no stalls", 0, y.tick(50));
        y.setLimit(0);
        y.touch(0, 0);
        check.due("tick, one in its first tick", 1, y.tick(50));
        y.touch(0, 0);
        check.due("tick, not those of other calls", 1, y.tick(1));
        check.due("deaths", 2, y.deaths());
    }

    private void promise10Ticks() {
        Swapyard y = new Swapyard();
        for (int call = 1; call <= 200; call++) {
            y.tick(50);
            check.due("time", 50 * call, y.time());
        }
    }

    /** Only the pages 0 and 7 are in frames, 3 is in the store. */
    private static Swapyard firstAndLastPage() {
        Swapyard y = Yards.withServices(2);
        y.setFrames(2);
        Yards.touchPages(y, 1, 3, 0, 7);
        y.touch(1, 0);
        return y;
    }

    private void promise11Pages() {
        Swapyard y = firstAndLastPage();
        check.due("placeOf, the first", 'f', y.placeOf(1, 0));
        check.due("placeOf, the last", 'f', y.placeOf(1, 7));
        check.due("placeOf, between", 's', y.placeOf(1, 3));
        check.dueThrow("placeOf, too small", INDEX, () -> y.placeOf(1, -1));
        check.dueThrow("placeOf, too large", INDEX, () -> y.placeOf(0, 8));
    }

    private void promise12NothingAndEachEvent() {
        Swapyard y = Yards.withServices(1);
        check.due("nothing has happened", "--------", placesByEvents(y));
        y.setFrames(3);
        y.setRoom(2);
        check.dueThrow("touch, refused", INDEX, () -> y.touch(0, 8));
        check.due("still nothing", "--------", placesByEvents(y));
        Yards.touchPages(y, 0, 7, 0, 1, 2, 3);
        check.due("two came to the store, one went on", "sfff---d", placesByEvents(y));
        y.setSize(0, 1, 4);
        y.setFrames(1);
        check.due("fewer frames, one page too great", "ddfs---d", placesByEvents(y));
        y.setRoom(0);
        check.due("no room", "ddfd---d", placesByEvents(y));
        Yards.kill(y, 0);
        check.due("a death", "--------", placesByEvents(y));
        y.touch(0, 7);
        check.due("a touch behind it", "-------f", placesByEvents(y));
    }

    private static String placesByEvents(Swapyard y) {
        StringBuilder text = new StringBuilder();
        for (int page = 0; page < 8; page++) {
            text.append(y.placeByEvents(0, page));
        }
        return text.toString();
    }

    private void promise12Pages() {
        Swapyard y = firstAndLastPage();
        check.due("placeByEvents, the first", 'f', y.placeByEvents(1, 0));
        check.due("placeByEvents, the last", 'f', y.placeByEvents(1, 7));
        check.due("placeByEvents, between", 's', y.placeByEvents(1, 3));
        check.due("placeByEvents, the last of the service ahead", '-', y.placeByEvents(0, 7));
        check.dueThrow("placeByEvents, too small", INDEX, () -> y.placeByEvents(1, -1));
        check.dueThrow("placeByEvents, too large", INDEX, () -> y.placeByEvents(0, 8));
    }

    private void promise13Pages() {
        Swapyard y = firstAndLastPage();
        check.due("frameOf, the first", 1, y.frameOf(1, 0));
        check.due("frameOf, the last", 0, y.frameOf(1, 7));
        check.dueThrow("frameOf, too small", INDEX, () -> y.frameOf(1, -1));
        check.dueThrow("frameOf, too large", INDEX, () -> y.frameOf(0, 8));
    }

    private void promise13FirstAndLastFrame() {
        Swapyard y = Yards.withServices(2);
        y.setFrames(16);
        for (int i = 0; i < 16; i++) {
            y.touch(i / 8, i % 8);
            check.due("frameOf", i, y.frameOf(i / 8, i % 8));
        }
    }

    private void promise14Pages() {
        Swapyard y = firstAndLastPage();
        check.due("isReferenced, the first", true, y.isReferenced(1, 0));
        check.due("isReferenced, the last", true, y.isReferenced(1, 7));
        check.due("isReferenced, of another service", false, y.isReferenced(0, 7));
        check.dueThrow("isReferenced, too small", INDEX, () -> y.isReferenced(1, -1));
        check.dueThrow("isReferenced, too large", INDEX, () -> y.isReferenced(0, 8));
    }

    private void promise14InNoFrame() {
        Swapyard y = Yards.withServices(1);
        check.due("isReferenced, nowhere", false, y.isReferenced(0, 1));
        y.setRoom(2);
        Yards.touchPages(y, 0, 0, 1, 2);
        check.due("isReferenced, in a frame", true, y.isReferenced(0, 1));
        y.setFrames(1);
        check.due("places", "fds-----", Yards.places(y, 0));
        check.due("isReferenced, on the disk", false, y.isReferenced(0, 1));
        check.due("isReferenced, in the store", false, y.isReferenced(0, 2));
        check.due("isReferenced, still in a frame", true, y.isReferenced(0, 0));
        Yards.kill(y, 0);
        check.due("isReferenced, nowhere again", false, y.isReferenced(0, 0));
    }

    private void promise15EachFrame() {
        Swapyard y = Yards.withServices(6);
        y.setFrames(16);
        y.setRoom(60);
        for (int i = 0; i < 16; i++) {
            y.touch(i / 8, i % 8);
            check.due("hand, while frames are free", 0, y.hand());
        }
        for (int i = 16; i < 48; i++) {
            y.touch(i / 8, i % 8);
            check.due("hand, behind clearing " + (i - 15), (i - 15) % 16, y.hand());
        }
    }

    private void promise16AllAndNone() {
        Swapyard y = Yards.withServices(3);
        check.due("free, all", 4, y.free());
        y.setFrames(16);
        for (int i = 0; i < 16; i++) {
            check.due("free", 16 - i, y.free());
            y.touch(i / 8, i % 8);
        }
        check.due("free, none", 0, y.free());
        y.touch(2, 0);
        check.due("free, none behind a clearing", 0, y.free());
        y.setFrames(1);
        check.due("free, none of one", 0, y.free());
    }

    private void promise17EmptyAndFull() {
        Swapyard y = Yards.withServices(6);
        y.setFrames(1);
        y.setRoom(60);
        check.due("stored, empty", 0, y.stored());
        for (int i = 0; i < 16; i++) {
            y.setSize(i / 8, i % 8, 4);
            y.touch(i / 8, i % 8);
            check.due("stored", 4 * i, y.stored());
        }
        y.touch(2, 0);
        check.due("stored, full", 60, y.stored());
        y.setRoom(0);
        check.due("stored, emptied", 0, y.stored());
    }

    /** The store holds all pages but one, in falling order. */
    private static Swapyard store47() {
        Swapyard y = Yards.withServices(6);
        y.setFrames(1);
        y.setRoom(60);
        for (int i = 47; i >= 0; i--) {
            y.setSize(i / 8, i % 8, 1);
            y.touch(i / 8, i % 8);
        }
        return y;
    }

    private void promise18FirstAndLast() {
        Swapyard y = store47();
        for (int index = 0; index < 47; index++) {
            check.due("storedAt " + index, 47 - index, y.storedAt(index));
        }
        check.dueThrow("storedAt 47", java.util.NoSuchElementException.class, () -> y.storedAt(47));
        y.touch(5, 7);
        check.due("storedAt, the second is the first now", 46, y.storedAt(0));
        check.due("storedAt, the last that came", 0, y.storedAt(46));
    }

    private void promise18LeastAndGreatest() {
        Swapyard y = store47();
        check.due("storedAt, page 7 of service 5", 47, y.storedAt(0));
        check.due("storedAt, page 0 of service 5", 40, y.storedAt(7));
        check.due("storedAt, page 7 of service 4", 39, y.storedAt(8));
        y.touch(0, 1);
        check.due("storedAt, page 0 of service 0", 0, y.storedAt(46));
    }

    private void promise19NoneAndMost() {
        Swapyard y = Yards.withServices(6);
        y.setFrames(1);
        y.setRoom(0);
        check.due("onDisk, none", 0, y.onDisk());
        for (int i = 0; i < 48; i++) {
            y.touch(i / 8, i % 8);
            check.due("onDisk", i, y.onDisk());
        }
        y.touch(0, 0);
        check.due("onDisk, one for another", 47, y.onDisk());
    }

    private void promise20EachPlace() {
        Swapyard y = new Swapyard();
        Yards.crowded(y);
        check.due("pagesIn frames", 2, y.pagesIn(1, 'f'));
        check.due("pagesIn the store", 2, y.pagesIn(1, 's'));
        check.due("pagesIn the disk", 2, y.pagesIn(1, 'd'));
        check.due("pagesIn nowhere", 2, y.pagesIn(1, '-'));
        check.dueThrow("pagesIn, no place", ARGUMENT, () -> y.pagesIn(1, 'n'));
    }

    private void promise20NoneAndAll() {
        Swapyard y = Yards.withServices(1);
        check.due("all nowhere", "0 0 0 8", counts(y));
        y.setFrames(8);
        Yards.touchPages(y, 0, 0, 1, 2, 3, 4, 5, 6, 7);
        check.due("all in frames", "8 0 0 0", counts(y));
        y.setRoom(14);
        y.setFrames(1);
        check.due("all but one in the store", "1 7 0 0", counts(y));
        y.setRoom(0);
        check.due("all but one on the disk", "1 0 7 0", counts(y));
    }

    private static String counts(Swapyard y) {
        return y.pagesIn(0, 'f') + " " + y.pagesIn(0, 's') + " " + y.pagesIn(0, 'd') + " " + y.pagesIn(0, '-');
    }

    private void promise21NoneAndForgotten() {
        Swapyard y = Yards.withServices(1);
        check.due("pressure, none", 0, y.pressure());
        y.touch(0, 0);
        check.due("pressure, of the present tick", 1, y.pressure());
        y.tick(3);
        check.due("pressure, three ticks ahead", 1, y.pressure());
        y.tick(1);
        check.due("pressure, four ticks ahead", 0, y.pressure());
        y.touch(0, 1);
        Yards.kill(y, 0);
        check.due("pressure, forgotten", 0, y.pressure());
    }

    private void promise22NoneAndRefused() {
        Swapyard y = Yards.withServices(2);
        y.setFrames(1);
        y.setRoom(0);
        check.due("stallsOf, none", 0L, y.stallsOf(0));
        y.touch(0, 0);
        y.touch(0, 0);
        check.due("stallsOf, a touch without a stall", 1L, y.stallsOf(0));
        check.dueThrow("touch, refused", INDEX, () -> y.touch(0, 8));
        y.touch(1, 0);
        check.due("stallsOf, the other's clearing", 1L, y.stallsOf(0));
        check.due("stallsOf, its own with the clearing", 1L + 5L, y.stallsOf(1));
        Yards.kill(y, 1);
        y.tick(50);
        check.due("stallsOf, behind a death and many ticks", 6L, y.stallsOf(1));
    }

    private void promise23DeadAndWaiting() {
        Swapyard y = new Swapyard();
        y.addService(0, 'a', 2);
        y.addService(0, 'n', 20);
        y.addNeed(0, 1);
        y.touch(1, 0);
        check.due("both run", "rr", Yards.states(y, 2));
        Yards.kill(y, 1);
        check.due("one is dead, the other waits", "wd", Yards.states(y, 2));
        Swapyard both = new Swapyard();
        both.addService(0, 'a', 3);
        both.addService(0, 'a', 2);
        both.addNeed(0, 1);
        both.touch(0, 0);
        both.touch(1, 0);
        Yards.kill(both, 0);
        check.due("dead, though it needs one that runs", "dr", Yards.states(both, 2));
        both.touch(1, 1);
        Yards.kill(both, 1);
        check.due("dead, and not waiting for a dead one", "dd", Yards.states(both, 2));
        both.tick(1);
        check.due("both start", "rr", Yards.states(both, 2));
    }

    private void promise24Lowest() {
        for (int dead = 1; dead < 6; dead++) {
            Swapyard y = new Swapyard();
            for (int service = 0; service < 6; service++) {
                y.addService(service == dead ? 0 : 100, 'n', 20);
            }
            for (int other = 5; other > 0; other--) {
                y.addNeed(0, other);
            }
            y.touch(dead, 0);
            Yards.kill(y, dead);
            check.due("waitsFor, the only one", dead, y.waitsFor(0));
            if (dead > 1) {
                y.addNeed(1, dead);
                check.due("waitsFor, a lower one that waits itself", 1, y.waitsFor(0));
            }
        }
        Swapyard chain = new Swapyard();
        chain.addService(9, 'n', 20);
        chain.addService(0, 'n', 20);
        chain.addService(9, 'n', 20);
        chain.addNeed(0, 2);
        chain.addNeed(2, 1);
        chain.touch(1, 0);
        Yards.kill(chain, 1);
        check.due("waitsFor, not the lower one that only the other needs", 2, chain.waitsFor(0));
        check.due("waitsFor, of the other", 1, chain.waitsFor(2));
    }

    private void promise25FirstAndLast() {
        Swapyard y = Yards.withServices(6);
        y.addNeed(5, 0);
        y.addNeed(0, 4);
        check.due("isNeeded, the first by the last", true, y.isNeeded(0));
        check.due("isNeeded, by the first", true, y.isNeeded(4));
        check.due("isNeeded, the last, by none", false, y.isNeeded(5));
        check.due("isNeeded, one between, by none", false, y.isNeeded(1));
        Swapyard chain = new Swapyard();
        chain.addService(9, 'n', 20);
        chain.addService(0, 'n', 20);
        chain.addService(9, 'n', 20);
        chain.addNeed(0, 1);
        chain.addNeed(1, 2);
        chain.touch(1, 0);
        Yards.kill(chain, 1);
        check.due("isNeeded, dead, by one that waits", true, chain.isNeeded(1));
        check.due("isNeeded, by the needs of another alone", false, chain.isNeeded(2));
    }

    private void promise26AtLeastOne() {
        Swapyard y = new Swapyard();
        y.addService(0, 'n', 20);
        y.tick(1);
        y.touch(0, 0);
        Yards.kill(y, 0);
        for (int left = 19; left >= 1; left--) {
            check.due("startsIn", left, y.startsIn(0));
            y.tick(1);
        }
        check.due("startsIn, its delay is over", 1, y.startsIn(0));
        y.tick(50);
        check.due("startsIn, its delay is long over", 1, y.startsIn(0));
        Swapyard one = new Swapyard();
        one.addService(0, 'n', 1);
        one.touch(0, 0);
        Yards.kill(one, 0);
        check.due("startsIn, the least delay", 1, one.startsIn(0));
    }

    private void promise27NoneAtFirst() {
        Swapyard y = new Swapyard();
        y.addService(0, 'a', 2);
        check.due("starts, a new one", 0, y.starts(0));
        y.touch(0, 0);
        Yards.kill(y, 0);
        check.due("starts, dead", 0, y.starts(0));
        y.tick(1);
        check.due("starts, behind its death", 1, y.starts(0));
        y.tick(50);
        check.due("starts, later", 1, y.starts(0));
    }

    private void promise28BelowZero() {
        Swapyard y = new Swapyard();
        y.addService(10, 'a', 1);
        y.addService(100, 'a', 1);
        check.due("score, the least of a new one", -100, y.score(1));
        y.touch(0, 0);
        check.due("score, as much as its weight", 0, y.score(0));
        Yards.kill(y, 0);
        check.due("score, below zero by a start", -30, y.score(0));
        y.touch(1, 0);
        Yards.touchPages(y, 1, 1, 2, 3);
        y.setFrames(16);
        Yards.touchPages(y, 1, 4, 5, 6, 7);
        check.due("score, all pages in frames, the greatest weight", -20, y.score(1));
        Yards.kill(y, 1);
        check.due("score, the greatest weight and a start", -120, y.score(1));
    }

    private void promise29IsTheNext() {
        Swapyard y = new Swapyard();
        for (int service = 0; service < 6; service++) {
            y.addService(10 * (5 - service), 'n', 1);
        }
        for (int service = 5; service >= 0; service--) {
            check.due("victim, the last at first", service, y.victim());
            y.touch(service, 0);
            y.setLimit(0);
            y.tick(1);
            check.due("stateOf", 'd', y.stateOf(service));
        }
    }

    private void promise30EachDeath() {
        Swapyard y = Yards.withServices(1);
        for (int deaths = 0; deaths < 5; deaths++) {
            check.due("deaths", deaths, y.deaths());
            y.touch(0, 0);
            y.setLimit(0);
            y.tick(2);
        }
        check.due("deaths, starts do not take them back", 5, y.deaths());
    }

    private void promise31NoneToNearlyAll() {
        Swapyard y = Yards.withServices(1);
        y.touch(0, 0);
        check.due("smoothShare, none", 0f, y.smoothShare());
        for (int touches = 2; touches <= 300; touches++) {
            y.touch(0, 0);
            if (touches % 7 == 0) {
                check.due("smoothShare, all but one", (float) (touches - 1) / (float) touches, y.smoothShare());
            }
        }
    }

    private void promise32OneTouchAndMany() {
        Swapyard y = Yards.withServices(1);
        y.touch(0, 0);
        check.due("meanStalls, one touch", 1.0, y.meanStalls());
        for (int touches = 2; touches <= 300; touches++) {
            y.touch(0, 0);
            if (touches % 7 == 0) {
                check.due("meanStalls, one stall", 1.0 / (double) touches, y.meanStalls());
            }
        }
        Swapyard dear = withManyStalls(4);
        check.due("meanStalls, the present", 1000.0 / 71.0, dear.meanStalls());
        Yards.kill(dear, 0);
        check.due("meanStalls, a death leaves it", 1000.0 / 71.0, dear.meanStalls());
    }
}
