import java.lang.reflect.Field;
import java.util.List;

/** Promise 33, and that a run of 512 calls keeps all that happened to pages. */
public final class SoundTest {
    private final Check check = new Check();

    public static void main(String[] args) {
        SoundTest test = new SoundTest();
        test.promise33BehindEachKindOfCall();
        test.promise33SixteenFramesAndAFullStore();
        test.check.sentence("Promise 33", "Checks whether placeOf() and placeByEvents() agree for each page",
                test::promise33FindsAnotherPlace);
        test.check.sentence("Promise 33", "no two pages are in one frame", test::promise33FindsTwoPagesInOneFrame);
        test.check.sentence("Promise 33", "the pages in the store have room", test::promise33FindsTooLittleRoom);
        test.promise12ManyMoves();
        test.promise12ManyDeaths();
        test.check.end();
    }

    private void sound(String what, Swapyard y) {
        check.due("isSound " + what, true, y.isSound());
    }

    private void promise33BehindEachKindOfCall() {
        Swapyard y = new Swapyard();
        sound("at first", y);
        Yards.addServices(y, 3);
        sound("with services", y);
        y.setFrames(2);
        y.touch(0, 0);
        sound("with a page in a frame", y);
        y.touch(1, 1);
        y.touch(2, 2);
        sound("with a page in the store", y);
        y.setSize(2, 2, 4);
        y.touch(0, 1);
        y.touch(0, 2);
        y.touch(0, 3);
        sound("with a page on the disk", y);
        y.setRoom(1);
        sound("with less room", y);
        y.setFrames(1);
        sound("with fewer frames", y);
        y.setLimit(0);
        y.tick(1);
        check.due("one died", 1, y.deaths());
        sound("behind a death", y);
        check.dueThrow("touch", IndexOutOfBoundsException.class, () -> y.touch(3, 0));
        sound("behind a call that throws", y);
    }

    private void promise33SixteenFramesAndAFullStore() {
        Swapyard y = Yards.withServices(6);
        y.setFrames(16);
        y.setRoom(60);
        for (int i = 0; i < 48; i++) {
            y.touch(i / 8, i % 8);
        }
        check.due("the store holds 30 pages, as many as it can", 60, y.stored());
        check.due("two are on the disk", 2, y.onDisk());
        sound("with all 48 pages somewhere", y);
        Swapyard small = Yards.withServices(6);
        small.setFrames(1);
        small.setRoom(60);
        for (int i = 0; i < 48; i++) {
            small.setSize(i / 8, i % 8, 1);
            small.touch(i / 8, i % 8);
        }
        check.due("the store holds all but one", 47, small.stored());
        check.due("storedAt, the last of 47", 46, small.storedAt(46));
        sound("with 47 pages in the store", small);
    }

    // No run of calls makes an object unsound, so in these three its fields are bent from outside.

    private void promise33FindsAnotherPlace() {
        int[] ends = {0, 7, 40, 47};
        for (int id : ends) {
            Swapyard y = everyPlace();
            sound("ahead of the change", y);
            set(page(y, id), "place", y.placeOf(id / 8, id % 8) == 'd' ? 's' : 'd');
            check.due("isSound, page " + id + " in another place than by the events", false, y.isSound());
        }
    }

    private void promise33FindsTwoPagesInOneFrame() {
        for (int frame = 0; frame < 16; frame++) {
            Swapyard y = everyPlace();
            // The pages in the frames 0 to 15 are 0 to 15.
            set(page(y, 0), "frame", frame);
            check.due("isSound, two pages in frame " + frame, frame == 0, y.isSound());
        }
        for (int service = 0; service < 6; service++) {
            for (int other = 0; other < service; other++) {
                Swapyard y = Yards.withServices(6);
                y.setFrames(6);
                for (int i = 0; i < 6; i++) {
                    y.touch(i, i);
                }
                sound("with a page of each service in a frame", y);
                set(page(y, 9 * service), "frame", other);
                check.due("isSound, services " + other + " and " + service + " in one frame", false, y.isSound());
            }
        }
    }

    private void promise33FindsTooLittleRoom() {
        Swapyard y = everyPlace();
        check.due("stored", 60, y.stored());
        sound("with just enough room", y);
        set(get(y, "store"), "room", 59);
        check.due("isSound, too little room by one", false, y.isSound());
        Swapyard empty = Yards.withServices(1);
        empty.setRoom(0);
        sound("with room 0 and an empty store", empty);
    }

    /** 16 pages in frames, 30 in the store and 2 on the disk. */
    private static Swapyard everyPlace() {
        Swapyard y = Yards.withServices(6);
        y.setFrames(16);
        y.setRoom(60);
        for (int id = 16; id < 48; id++) {
            y.touch(id / 8, id % 8);
        }
        for (int id = 0; id < 16; id++) {
            y.touch(id / 8, id % 8);
        }
        return y;
    }

    private static Object page(Swapyard y, int id) {
        Object owner = ((List<?>) get(y, "services")).get(id / 8);
        return ((Object[]) get(owner, "pages"))[id % 8];
    }

    private static Field field(Object of, String name) throws ReflectiveOperationException {
        Field field = of.getClass().getDeclaredField(name);
        field.setAccessible(true);
        return field;
    }

    private static Object get(Object of, String name) {
        try {
            return field(of, name).get(of);
        } catch (ReflectiveOperationException e) {
            throw new IllegalStateException("the class keeps its state in another way now", e);
        }
    }

    private static void set(Object of, String name, Object value) {
        try {
            field(of, name).set(of, value);
        } catch (ReflectiveOperationException e) {
            throw new IllegalStateException("the class keeps its state in another way now", e);
        }
    }

    /** Each touch makes three moves: one comes in, one goes to the store, one goes to the disk. */
    private void promise12ManyMoves() {
        Swapyard y = Yards.withServices(1);
        y.setFrames(1);
        y.setRoom(2);
        for (int call = 0; call < 480; call++) {
            y.touch(0, call % 8);
        }
        String due = "ddddddsf";
        for (int page = 0; page < 8; page++) {
            check.due("placeByEvents behind many moves", due.charAt(page), y.placeByEvents(0, page));
            check.due("placeOf behind many moves", due.charAt(page), y.placeOf(0, page));
        }
        sound("behind many moves", y);
    }

    /** Pages go through all four places as often as 500 calls allow. */
    private void promise12ManyDeaths() {
        Swapyard y = Yards.withServices(1);
        y.setFrames(1);
        y.setRoom(2);
        y.setLimit(0);
        for (int life = 0; life < 55; life++) {
            for (int page = 0; page < 8; page++) {
                y.touch(0, page);
            }
            y.tick(1);
        }
        check.due("deaths", 55, y.deaths());
        check.due("placeByEvents behind many deaths", '-', y.placeByEvents(0, 7));
        y.touch(0, 7);
        check.due("placeByEvents behind one more touch", 'f', y.placeByEvents(0, 7));
        sound("behind many deaths", y);
    }
}
