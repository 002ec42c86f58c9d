import java.util.ArrayList;
import java.util.List;
import java.util.NoSuchElementException;
import java.util.function.Consumer;

/** Each "Throws" of the promises, and the two sentences on exceptions; each sentence has a test of its own. */
public final class RefusalsBoundaryTest {
    private static final Class<ArithmeticException> ARITHMETIC = ArithmeticException.class;
    private static final Class<IllegalArgumentException> ARGUMENT = IllegalArgumentException.class;
    private static final Class<IllegalStateException> STATE = IllegalStateException.class;
    private static final Class<IndexOutOfBoundsException> INDEX = IndexOutOfBoundsException.class;
    private static final Class<NoSuchElementException> ELEMENT = NoSuchElementException.class;
    private static final Class<UnsupportedOperationException> RING = UnsupportedOperationException.class;

    private static final String NO_SERVICE = "Throws `IndexOutOfBoundsException` if there is no such service";
    private static final String NO_SERVICE_OR_PAGE =
            "Throws `IndexOutOfBoundsException` if there is no such service or no such page";
    private static final String OUT_OF_RANGE = "Throws `IllegalArgumentException` if it is out of range";

    /** Numbers far from every range, and those that an overflow or a lost bit would bring back into it. */
    private static final int[] FAR = {
        Integer.MIN_VALUE, Integer.MIN_VALUE + 1, -65536, -256, -32, -8, 4096, 65536, 65537, 1 << 29, 1 << 30,
        Integer.MAX_VALUE
    };

    private interface ServiceCall {
        Object of(Swapyard y, int service);
    }

    private interface PageCall {
        Object of(Swapyard y, int service, int page);
    }

    private interface YardCall {
        Object of(Swapyard y);
    }

    private interface NumberCall {
        Object of(Swapyard y, int number);
    }

    private record Refused(String name, Class<? extends RuntimeException> due, Consumer<Swapyard> call) {
    }

    private final Check check = new Check();

    public static void main(String[] args) {
        RefusalsBoundaryTest test = new RefusalsBoundaryTest();
        test.exceptions();
        test.promises2To4();
        test.promises5To9();
        test.promises11To20();
        test.promises22To32();
        test.check.end();
    }

    private void exceptions() {
        check.sentence("Exceptions", "A method that throws an exception changes nothing.",
                this::refusedCallsChangeNothing);
        check.sentence("Exceptions",
                "If several exceptions apply, the one that is listed first is thrown.", this::theFirstListedIsThrown);
    }

    private void promises2To4() {
        check.sentence("Promise 2", "Throws `IllegalArgumentException` if one of them is out of range",
                this::promise2OutOfRange);
        check.sentence("Promise 2", "Throws `IllegalStateException` if there are 6 services",
                this::promise2SixServices);
        check.sentence("Promise 3",
                "Throws `IndexOutOfBoundsException` if there is no such service, for either", this::promise3NoService);
        check.sentence("Promise 3", "Throws `IllegalArgumentException` if both are the same", this::promise3TheSame);
        check.sentence("Promise 3", "Throws `UnsupportedOperationException` if the other one needs this one, itself "
                + "or by services that it needs", this::promise3Rings);
        check.sentence("Promise 4", NO_SERVICE_OR_PAGE,
                () -> noSuchPage("setSize", (y, service, page) -> y.setSize(service, page, 1)));
        check.sentence("Promise 4", "Throws `IllegalArgumentException` if the size is out of range",
                () -> outOfRange("setSize", 1, 4, (y, size) -> y.setSize(1, 7, size)));
        check.sentence("Promise 4", "Throws `IllegalStateException` if the page is in the store",
                this::promise4InTheStore);
    }

    private void promises5To9() {
        check.sentence("Promise 5", OUT_OF_RANGE, () -> outOfRange("setFrames", 1, 16, Swapyard::setFrames));
        check.sentence("Promise 6", OUT_OF_RANGE, () -> outOfRange("setRoom", 0, 60, Swapyard::setRoom));
        check.sentence("Promise 7", OUT_OF_RANGE, () -> outOfRange("setLimit", 0, 999, Swapyard::setLimit));
        check.sentence("Promise 8", NO_SERVICE_OR_PAGE, () -> noSuchPage("touch", Swapyard::touch));
        check.sentence("Promise 8", "Throws `IllegalStateException` if the service does not run",
                this::promise8DoesNotRun);
        check.sentence("Promise 9", "Throws `IllegalArgumentException` if the number is out of range",
                () -> outOfRange("tick", 1, 50, Swapyard::tick));
    }

    private void promises11To20() {
        check.sentence("Promise 11", NO_SERVICE_OR_PAGE, () -> noSuchPage("placeOf", Swapyard::placeOf));
        check.sentence("Promise 12", NO_SERVICE_OR_PAGE, () -> noSuchPage("placeByEvents", Swapyard::placeByEvents));
        check.sentence("Promise 13", NO_SERVICE_OR_PAGE, () -> noSuchPage("frameOf", Swapyard::frameOf));
        check.sentence("Promise 13", "Throws `NoSuchElementException` if the page is in no frame",
                this::promise13InNoFrame);
        check.sentence("Promise 14", NO_SERVICE_OR_PAGE, () -> noSuchPage("isReferenced", Swapyard::isReferenced));
        check.sentence("Promise 18", "Throws `NoSuchElementException` if there is no such page",
                this::promise18NoPage);
        check.sentence("Promise 20", NO_SERVICE,
                () -> noSuchService("pagesIn", (y, service) -> y.pagesIn(service, 'f')));
        check.sentence("Promise 20", "Throws `IllegalArgumentException` if there is no such place",
                this::promise20NoPlace);
    }

    private void promises22To32() {
        check.sentence("Promise 22", NO_SERVICE, () -> noSuchService("stallsOf", Swapyard::stallsOf));
        check.sentence("Promise 23", NO_SERVICE, () -> noSuchService("stateOf", Swapyard::stateOf));
        check.sentence("Promise 24", NO_SERVICE, () -> noSuchService("waitsFor", Swapyard::waitsFor));
        check.sentence("Promise 24", "Throws `NoSuchElementException` if there is none", this::promise24None);
        check.sentence("Promise 25", NO_SERVICE, () -> noSuchService("isNeeded", Swapyard::isNeeded));
        check.sentence("Promise 26", NO_SERVICE, () -> noSuchService("startsIn", Swapyard::startsIn));
        check.sentence("Promise 26", "Throws `IllegalStateException` if it is not dead", this::promise26NotDead);
        check.sentence("Promise 27", NO_SERVICE, () -> noSuchService("starts", Swapyard::starts));
        check.sentence("Promise 28", NO_SERVICE, () -> noSuchService("score", Swapyard::score));
        check.sentence("Promise 29", "Throws `NoSuchElementException` if all services are dead",
                this::promise29AllDead);
        check.sentence("Promise 29", "or there are none", this::promise29None);
        check.sentence("Promise 31", "Throws `ArithmeticException` if there were none",
                () -> noTouches("smoothShare", Swapyard::smoothShare));
        check.sentence("Promise 32", "Throws `ArithmeticException` if there were none",
                () -> noTouches("meanStalls", Swapyard::meanStalls));
    }

    private void refuse(String what, Class<? extends RuntimeException> due, Consumer<Swapyard> call) {
        check.dueThrowWithoutChange(what, due, Yards::crowded, call);
    }

    /** The two numbers next to the range, and those far away, are refused; its ends are not. */
    private void outOfRange(String name, int least, int most, NumberCall call) {
        refuse(name + ", too small", ARGUMENT, y -> call.of(y, least - 1));
        refuse(name + ", too large", ARGUMENT, y -> call.of(y, most + 1));
        for (int number : FAR) {
            refuse(name + " " + number, ARGUMENT, y -> call.of(y, number));
        }
        check.due(name + ", the least, refused", false, isRefused(y -> call.of(y, least)));
        check.due(name + ", the most, refused", false, isRefused(y -> call.of(y, most)));
    }

    private static boolean isRefused(Consumer<Swapyard> call) {
        Swapyard y = new Swapyard();
        Yards.crowded(y);
        String outcome = Check.outcome(() -> {
            call.accept(y);
            return "answered";
        });
        return !outcome.equals("answered");
    }

    private void noSuchService(String name, ServiceCall call) {
        check.dueThrow(name + ", the first of none", INDEX, () -> call.of(new Swapyard(), 0));
        for (int number = 3; number <= 6; number++) {
            int behind = number;
            check.dueThrowWithoutChange(name + ", service " + behind + " of 3", INDEX, Yards::busy,
                    y -> call.of(y, behind));
        }
        refuse(name + ", too small", INDEX, y -> call.of(y, -1));
        refuse(name + ", too large", INDEX, y -> call.of(y, 6));
        for (int number : FAR) {
            refuse(name + ", service " + number, INDEX, y -> call.of(y, number));
        }
    }

    private void noSuchPage(String name, PageCall call) {
        noSuchService(name, (y, service) -> call.of(y, service, 0));
        for (int number = 0; number < 6; number++) {
            int service = number;
            refuse(name + " of " + service + ", page too small", INDEX, y -> call.of(y, service, -1));
            refuse(name + " of " + service + ", page too large", INDEX, y -> call.of(y, service, 8));
        }
        for (int page : FAR) {
            refuse(name + ", page " + page, INDEX, y -> call.of(y, 1, page));
        }
    }

    private void noTouches(String name, YardCall call) {
        check.dueThrow(name + ", no services", ARITHMETIC, () -> call.of(new Swapyard()));
        Swapyard y = Yards.withServices(1);
        y.tick(50);
        check.dueThrow(name + ", only ticks", ARITHMETIC, () -> call.of(y));
        check.dueThrow("touch, refused", INDEX, () -> y.touch(0, 8));
        check.dueThrow(name + ", only a refused touch", ARITHMETIC, () -> call.of(y));
        check.due("the first touch", 1, y.touch(0, 0));
        check.due(name + ", refused", false, Check.outcome(() -> call.of(y)).startsWith("throws"));
    }

    private void promise2OutOfRange() {
        // On six services the other exception applies as well, so these calls are made on three.
        int[] weights = {-1, 101};
        for (int weight : weights) {
            refuseFirst("weight " + weight, y -> y.addService(weight, 'n', 1));
        }
        int[] delays = {0, 21, -1};
        for (int delay : delays) {
            refuseFirst("delay " + delay, y -> y.addService(0, 'n', delay));
        }
        for (int number : FAR) {
            refuseFirst("weight " + number, y -> y.addService(number, 'n', 1));
            refuseFirst("delay " + number, y -> y.addService(0, 'n', number));
        }
        for (char policy = 0; policy < 512; policy++) {
            char wrong = policy;
            if (wrong != 'a' && wrong != 'n') {
                check.dueThrow("policy " + (int) wrong, ARGUMENT, () -> new Swapyard().addService(0, wrong, 1));
            }
        }
        refuseFirst("policy 'b'", y -> y.addService(0, 'b', 1));
        refuseFirst("policy 'N'", y -> y.addService(0, 'N', 1));
        refuseFirst("policy 'a' + 256", y -> y.addService(0, (char) ('a' + 256), 1));
        refuseFirst("policy 'n' + 32768", y -> y.addService(0, (char) ('n' + 32768), 1));
    }

    private void refuseFirst(String what, Consumer<Swapyard> call) {
        check.dueThrowWithoutChange("addService, " + what, ARGUMENT, Yards::busy, call);
    }

    private void promise2SixServices() {
        Swapyard y = Yards.withServices(5);
        check.due("addService, the 6th", 5, y.addService(100, 'n', 20));
        check.dueThrow("addService, the 7th", STATE, () -> y.addService(100, 'n', 20));
        refuse("addService, 'a'", STATE, z -> z.addService(0, 'a', 1));
        refuse("addService, 'n'", STATE, z -> z.addService(100, 'n', 20));
        check.due("a dead one counts", 1, crowdedDeaths());
    }

    private static int crowdedDeaths() {
        Swapyard y = new Swapyard();
        Yards.crowded(y);
        return y.deaths();
    }

    private void promise3NoService() {
        noSuchService("addNeed, this one", (y, service) -> y.addNeed(service, 0));
        noSuchService("addNeed, the other one", (y, service) -> y.addNeed(0, service));
    }

    private void promise3TheSame() {
        for (int number = 0; number < 6; number++) {
            int same = number;
            refuse("addNeed, twice " + same, ARGUMENT, y -> y.addNeed(same, same));
        }
    }

    private void promise3Rings() {
        // In the crowded yard 3 needs 2, 2 needs 0 and 1, and 5 needs 4.
        refuse("addNeed, itself", RING, y -> y.addNeed(0, 2));
        refuse("addNeed, itself, another", RING, y -> y.addNeed(4, 5));
        refuse("addNeed, by one", RING, y -> y.addNeed(1, 3));
        Swapyard up = Yards.withServices(6);
        Swapyard down = Yards.withServices(6);
        for (int link = 0; link < 5; link++) {
            int service = link;
            up.addNeed(service, service + 1);
            down.addNeed(service + 1, service);
            check.dueThrow("addNeed, by " + link + " services", RING, () -> up.addNeed(service + 1, 0));
            check.dueThrow("addNeed, by " + link + " services", RING, () -> down.addNeed(0, service + 1));
        }
        Swapyard byZero = Yards.withServices(3);
        byZero.addNeed(2, 0);
        byZero.addNeed(0, 1);
        check.dueThrow("addNeed, by service 0", RING, () -> byZero.addNeed(1, 2));
        check.due("addNeed, over the chain, is no ring", 2, up.addNeed(0, 5));
        check.due("addNeed, over the chain, is no ring", 2, down.addNeed(5, 0));
    }

    private void promise4InTheStore() {
        for (int size = 1; size <= 4; size++) {
            int same = size;
            refuse("setSize, in the store, " + same, STATE, y -> y.setSize(1, 2, same));
        }
        refuse("setSize, the last in the store", STATE, y -> y.setSize(1, 3, 1));
        check.due("setSize, on the disk, refused", false, isRefused(y -> y.setSize(1, 0, 4)));
        check.due("setSize, in a frame, refused", false, isRefused(y -> y.setSize(1, 4, 4)));
        check.due("setSize, nowhere, refused", false, isRefused(y -> y.setSize(1, 6, 4)));
    }

    private void promise8DoesNotRun() {
        refuse("touch, dead", STATE, y -> y.touch(0, 0));
        refuse("touch, waits", STATE, y -> y.touch(2, 0));
        refuse("touch, waits, a page on the disk", STATE, y -> y.touch(2, 6));
        refuse("touch, waits for one that waits", STATE, y -> y.touch(3, 7));
        Consumer<Swapyard> waitsWithPages = y -> {
            y.addService(100, 'a', 1);
            y.addService(0, 'a', 20);
            y.addNeed(0, 1);
            y.setFrames(2);
            Yards.touchPages(y, 0, 0, 1, 2);
            y.setFrames(3);
            Yards.touchPages(y, 1, 0);
            Yards.kill(y, 1);
        };
        check.dueThrowWithoutChange("touch, waits, in the store", STATE, waitsWithPages, y -> y.touch(0, 0));
        check.dueThrowWithoutChange("touch, waits, in a frame", STATE, waitsWithPages, y -> y.touch(0, 1));
        check.due("touch, runs, refused", false, isRefused(y -> y.touch(1, 0)));
    }

    private void promise13InNoFrame() {
        refuse("frameOf, on the disk", ELEMENT, y -> y.frameOf(1, 0));
        refuse("frameOf, in the store", ELEMENT, y -> y.frameOf(1, 2));
        refuse("frameOf, nowhere", ELEMENT, y -> y.frameOf(1, 7));
        refuse("frameOf, of a dead service", ELEMENT, y -> y.frameOf(0, 1));
        check.due("frameOf, in a frame, refused", false, isRefused(y -> y.frameOf(1, 4)));
    }

    private void promise18NoPage() {
        check.dueThrow("storedAt, a new object", ELEMENT, () -> new Swapyard().storedAt(0));
        refuse("storedAt, too small", ELEMENT, y -> y.storedAt(-1));
        refuse("storedAt, too large", ELEMENT, y -> y.storedAt(2));
        for (int index : FAR) {
            refuse("storedAt " + index, ELEMENT, y -> y.storedAt(index));
        }
        check.due("storedAt, the last, refused", false, isRefused(y -> y.storedAt(1)));
        Swapyard emptied = new Swapyard();
        Yards.crowded(emptied);
        emptied.setRoom(0);
        check.dueThrow("storedAt, empty again", ELEMENT, () -> emptied.storedAt(0));
    }

    private void promise20NoPlace() {
        for (char place = 0; place < 512; place++) {
            char wrong = place;
            if ("fsd-".indexOf(place) < 0) {
                check.dueThrow("pagesIn, place " + (int) place, ARGUMENT,
                        () -> Yards.withServices(1).pagesIn(0, wrong));
            }
        }
        char[] places = {'F', 'r', 'w', 'n', (char) ('f' + 256), (char) ('-' + 65280), Character.MAX_VALUE};
        for (char place : places) {
            refuse("pagesIn, place " + (int) place, ARGUMENT, y -> y.pagesIn(1, place));
        }
    }

    private void promise24None() {
        refuse("waitsFor, needs none", ELEMENT, y -> y.waitsFor(1));
        refuse("waitsFor, needs one that runs", ELEMENT, y -> y.waitsFor(5));
        refuse("waitsFor, dead, needs none", ELEMENT, y -> y.waitsFor(0));
        check.due("waitsFor, needs a dead one, refused", false, isRefused(y -> y.waitsFor(2)));
        check.due("waitsFor, needs one that waits, refused", false, isRefused(y -> y.waitsFor(3)));
    }

    private void promise26NotDead() {
        refuse("startsIn, runs", STATE, y -> y.startsIn(1));
        refuse("startsIn, waits", STATE, y -> y.startsIn(2));
        Swapyard y = new Swapyard();
        Yards.crowded(y);
        check.due("startsIn, dead", 6, y.startsIn(0));
        y.tick(6);
        check.dueThrow("startsIn, started again", STATE, () -> y.startsIn(0));
    }

    private void promise29AllDead() {
        Swapyard y = new Swapyard();
        y.addService(0, 'n', 1);
        y.addService(0, 'n', 1);
        for (int service = 0; service < 2; service++) {
            y.touch(service, 0);
            check.due("victim, not all are dead", service, y.victim());
            Yards.kill(y, service);
        }
        check.dueThrow("victim", ELEMENT, y::victim);
        y.addService(100, 'n', 1);
        check.due("victim, a new one", 2, y.victim());
    }

    private void promise29None() {
        Swapyard y = new Swapyard();
        check.dueThrow("victim", ELEMENT, y::victim);
        y.tick(50);
        check.dueThrow("victim, later", ELEMENT, y::victim);
        y.addService(100, 'n', 20);
        check.due("victim, the first one", 0, y.victim());
    }

    /** One of each method and exception; those of addService's other exception need fewer services. */
    private static List<Refused> eachRefusal() {
        List<Refused> all = new ArrayList<>();
        all.add(new Refused("addService, 7th", STATE, y -> y.addService(0, 'a', 1)));
        all.add(new Refused("addService, range", ARGUMENT, y -> y.addService(101, 'a', 1)));
        all.add(new Refused("addNeed, this one", INDEX, y -> y.addNeed(6, 0)));
        all.add(new Refused("addNeed, other one", INDEX, y -> y.addNeed(0, 6)));
        all.add(new Refused("addNeed, same", ARGUMENT, y -> y.addNeed(1, 1)));
        all.add(new Refused("addNeed, ring", RING, y -> y.addNeed(0, 3)));
        all.add(new Refused("setSize, page", INDEX, y -> y.setSize(0, 8, 3)));
        all.add(new Refused("setSize, size", ARGUMENT, y -> y.setSize(1, 4, 5)));
        all.add(new Refused("setSize, in the store", STATE, y -> y.setSize(1, 3, 4)));
        all.add(new Refused("setFrames", ARGUMENT, y -> y.setFrames(17)));
        all.add(new Refused("setFrames, 0", ARGUMENT, y -> y.setFrames(0)));
        all.add(new Refused("setRoom", ARGUMENT, y -> y.setRoom(-1)));
        all.add(new Refused("setRoom, 61", ARGUMENT, y -> y.setRoom(61)));
        all.add(new Refused("setLimit", ARGUMENT, y -> y.setLimit(-1)));
        all.add(new Refused("setLimit, 1000", ARGUMENT, y -> y.setLimit(1000)));
        all.add(new Refused("touch, page", INDEX, y -> y.touch(1, 8)));
        all.add(new Refused("touch, dead", STATE, y -> y.touch(0, 0)));
        all.add(new Refused("touch, waits", STATE, y -> y.touch(2, 6)));
        all.add(new Refused("tick, 0", ARGUMENT, y -> y.tick(0)));
        all.add(new Refused("tick, 51", ARGUMENT, y -> y.tick(51)));
        all.add(new Refused("placeOf", INDEX, y -> y.placeOf(6, 0)));
        all.add(new Refused("placeByEvents", INDEX, y -> y.placeByEvents(6, 0)));
        all.add(new Refused("frameOf, service", INDEX, y -> y.frameOf(6, 0)));
        all.add(new Refused("frameOf, store", ELEMENT, y -> y.frameOf(1, 2)));
        all.add(new Refused("isReferenced", INDEX, y -> y.isReferenced(1, 8)));
        all.add(new Refused("storedAt", ELEMENT, y -> y.storedAt(2)));
        all.add(new Refused("pagesIn, service", INDEX, y -> y.pagesIn(6, 'f')));
        all.add(new Refused("pagesIn, place", ARGUMENT, y -> y.pagesIn(1, 'x')));
        all.add(new Refused("stallsOf", INDEX, y -> y.stallsOf(6)));
        all.add(new Refused("stateOf", INDEX, y -> y.stateOf(6)));
        all.add(new Refused("waitsFor, service", INDEX, y -> y.waitsFor(6)));
        all.add(new Refused("waitsFor, none", ELEMENT, y -> y.waitsFor(1)));
        all.add(new Refused("isNeeded", INDEX, y -> y.isNeeded(6)));
        all.add(new Refused("startsIn, service", INDEX, y -> y.startsIn(6)));
        all.add(new Refused("startsIn, not dead", STATE, y -> y.startsIn(1)));
        all.add(new Refused("starts", INDEX, y -> y.starts(6)));
        all.add(new Refused("score", INDEX, y -> y.score(6)));
        return all;
    }

    private void refusedCallsChangeNothing() {
        for (Refused refused : eachRefusal()) {
            refuse(refused.name(), refused.due(), refused.call());
        }
        refuse("all of them one behind the other", STATE, y -> {
            for (Refused refused : eachRefusal()) {
                check.dueThrow(refused.name(), refused.due(), () -> {
                    refused.call().accept(y);
                    return "nothing";
                });
            }
            y.touch(0, 0);
        });
        Consumer<Swapyard> untouched = y -> y.addService(0, 'a', 1);
        check.dueThrowWithoutChange("victim, none", ELEMENT, y -> { }, Swapyard::victim);
        check.dueThrowWithoutChange("addService", ARGUMENT, y -> { }, y -> y.addService(0, 'a', 21));
        check.dueThrowWithoutChange("smoothShare", ARITHMETIC, untouched, Swapyard::smoothShare);
        check.dueThrowWithoutChange("meanStalls", ARITHMETIC, untouched, Swapyard::meanStalls);
    }

    private void theFirstListedIsThrown() {
        refuse("addService, weight, 7th", ARGUMENT, y -> y.addService(101, 'a', 1));
        refuse("addService, policy, 7th", ARGUMENT, y -> y.addService(0, 'x', 1));
        refuse("addService, delay, 7th", ARGUMENT, y -> y.addService(0, 'a', 0));
        refuse("addNeed, no such service, both the same", INDEX, y -> y.addNeed(6, 6));
        refuse("addNeed, no such service, both the same", INDEX, y -> y.addNeed(-1, -1));
        refuse("setSize, service and size", INDEX, y -> y.setSize(6, 0, 0));
        refuse("setSize, page and size", INDEX, y -> y.setSize(0, 8, 5));
        refuse("setSize, size too small, in the store", ARGUMENT, y -> y.setSize(1, 2, 0));
        refuse("setSize, size too large, in the store", ARGUMENT, y -> y.setSize(1, 2, 5));
        refuse("touch, page of a dead service", INDEX, y -> y.touch(0, 8));
        refuse("touch, page of a service that waits", INDEX, y -> y.touch(2, -1));
        refuse("frameOf, no such page is in no frame", INDEX, y -> y.frameOf(1, 8));
        refuse("pagesIn, service and place", INDEX, y -> y.pagesIn(6, 'x'));
        refuse("waitsFor, no such service needs none", INDEX, y -> y.waitsFor(6));
        refuse("startsIn, no such service is not dead", INDEX, y -> y.startsIn(6));
    }
}
