import java.util.NoSuchElementException;

/** Promises 9, 10, 21 and 23 to 30: ticks, the pressure, and the lives of services. */
public final class TickTest {
    private static final Class<IllegalArgumentException> ARGUMENT = IllegalArgumentException.class;
    private static final Class<IllegalStateException> STATE = IllegalStateException.class;
    private static final Class<IndexOutOfBoundsException> INDEX = IndexOutOfBoundsException.class;
    private static final Class<NoSuchElementException> ELEMENT = NoSuchElementException.class;
    private static final int[] NO_SERVICES = {-1, 3, 6, Integer.MIN_VALUE, Integer.MAX_VALUE};

    private interface ServiceCall {
        Object of(Swapyard y, int service);
    }

    private final Check check = new Check();

    public static void main(String[] args) {
        TickTest test = new TickTest();
        test.promise9KillsAndForgets();
        test.promise9TheWindowIsFourTicks();
        test.promise9GreatPressure();
        test.promise9TheKillComesFirst();
        test.promise9DeathFreesPlaces();
        test.promise9StartsByDelay();
        test.promise9StartsLateInTime();
        test.promise9DelayOneStartsInTheTickOfTheDeath();
        test.promise9StartsOnlyIfNeeded();
        test.promise9StartsByRisingNumbers();
        test.promise9NeededByOneThatWaits();
        test.promise9WrongInputs();
        test.promise10Time();
        test.promise21Pressure();
        test.promise23StateOf();
        test.promise24WaitsFor();
        test.promise25IsNeeded();
        test.promise26StartsIn();
        test.promise27Starts();
        test.promise28Score();
        test.promise28AllPagesInOnePlace();
        test.promise29Victim();
        test.promise29LowScores();
        test.promise29HighScores();
        test.promise30Deaths();
        test.wrongServices();
        test.check.end();
    }

    private void promise9KillsAndForgets() {
        Swapyard y = new Swapyard();
        y.addService(0, 'a', 20);
        y.addService(0, 'a', 20);
        y.setLimit(2);
        y.touch(0, 0);
        y.touch(0, 1);
        check.due("as many as the limit", 0, y.tick(1));
        y.touch(1, 0);
        check.due("more than the limit", 1, y.tick(1));
        check.due("all of these ticks are forgotten", 0, y.pressure());
        check.due("the greatest score was killed", 'd', y.stateOf(0));
        y.touch(1, 1);
        y.touch(1, 2);
        check.due("two anew", 0, y.tick(1));
        y.touch(1, 3);
        check.due("one victim in many ticks", 1, y.tick(15));
        check.due("all are dead", 0, y.tick(2));
        check.due("no kill of the dead", 2, y.deaths());
        check.due("stalls of touches are not forgotten", 2L, y.stallsOf(0));
    }

    private void promise9TheWindowIsFourTicks() {
        for (int ticks = 0; ticks < 6; ticks++) {
            Swapyard y = Yards.withServices(1);
            y.touch(0, 0);
            if (ticks > 0) {
                y.tick(ticks);
            }
            y.setLimit(0);
            check.due("a stall " + ticks + " ticks ago kills", ticks < 4 ? 1 : 0, y.tick(1));
        }
        Swapyard y = Yards.withServices(1);
        y.setLimit(3);
        for (int page = 0; page < 4; page++) {
            y.touch(0, page);
            check.due("a stall in each tick, the " + page + "th", page == 3 ? 1 : 0, y.tick(1));
        }
    }

    private void promise9GreatPressure() {
        Swapyard y = Yards.withServices(2);
        Yards.beforeTheMostStalls(y);
        y.tick(4);
        check.due("pressure, none counts any more", 0, y.pressure());
        y.setLimit(31);
        y.touch(1, 0);
        check.due("pressure, of one touch", 31, y.pressure());
        check.due("31 are not more than 31", 0, y.tick(1));
        y.setLimit(30);
        check.due("31 are more than 30", 1, y.tick(1));
        Swapyard great = greatPressure(66);
        great.setFrames(4);
        great.touch(0, 7);
        great.touch(0, 6);
        check.due("pressure, 999", 999, great.pressure());
        check.due("999 are not more than 999", 0, great.tick(1));
        great.touch(0, 5);
        check.due("pressure, 1000", 1000, great.pressure());
        check.due("1000 are more than 999", 1, great.tick(1));
        check.due("pressure, 1000 forgotten", 0, great.pressure());
        check.due("pressure, over 3000", 3007, greatPressure(200).pressure());
    }

    /** The limit is 999, and so many touches made 15 stalls each, another one 6 and the first 1. */
    private static Swapyard greatPressure(int touches) {
        Swapyard y = Yards.withServices(1);
        y.setLimit(999);
        y.setFrames(1);
        y.setRoom(0);
        y.touch(0, 0);
        y.touch(0, 1);
        for (int i = 0; i < touches; i++) {
            y.touch(0, i % 2);
        }
        return y;
    }

    private void promise9TheKillComesFirst() {
        Swapyard y = new Swapyard();
        y.addService(0, 'a', 2);
        y.addService(100, 'a', 20);
        y.setLimit(0);
        y.touch(0, 0);
        check.due("service 0 is killed", 1, y.tick(1));
        y.touch(1, 0);
        check.due("service 0 would start in this tick", 1, y.startsIn(0));
        check.due("one is killed", 1, y.tick(1));
        check.due("it is service 1, for 0 was still dead", 'd', y.stateOf(1));
        check.due("service 0 started behind that", 'r', y.stateOf(0));
        check.due("the time of the death counts", 19, y.startsIn(1));
    }

    private void promise9DeathFreesPlaces() {
        Swapyard y = Yards.withServices(2);
        y.setFrames(2);
        y.setRoom(60);
        for (int page = 0; page < 4; page++) {
            y.touch(0, page);
            y.touch(1, page);
        }
        check.due("six in the store", "0 8 1 9 2 10", Snapshot.store(y));
        y.touch(0, 0);
        y.touch(0, 1);
        check.due("service 0 has two in frames", 2, y.pagesIn(0, 'f'));
        Yards.kill(y, 0);
        check.due("its frames are free", 2, y.free());
        check.due("pages in the store keep their order", "8 9 10 11", Snapshot.store(y));
        check.due("its room is free", 8, y.stored());
        check.due("its pages are nowhere", 8, y.pagesIn(0, '-'));
        check.due("the other's pages stay", 4, y.pagesIn(1, 's'));
        check.due("sound", true, y.isSound());
    }

    private void promise9StartsByDelay() {
        for (int delay = 1; delay <= 20; delay++) {
            Swapyard y = new Swapyard();
            y.addService(0, 'a', delay);
            y.setLimit(0);
            y.tick(3);
            y.touch(0, 0);
            y.tick(1);
            for (int passed = 1; passed < delay; passed++) {
                check.due("still dead " + passed + " of " + delay, 'd', y.stateOf(0));
                y.tick(1);
            }
            check.due("started behind the delay " + delay, 'r', y.stateOf(0));
            check.due("started once", 1, y.starts(0));
        }
    }

    private void promise9StartsLateInTime() {
        int[] fifties = {1, 2, 5, 6, 20, 100, 400};
        for (int count : fifties) {
            Swapyard y = new Swapyard();
            y.addService(0, 'a', 3);
            for (int i = 0; i < count; i++) {
                y.tick(50);
            }
            y.touch(0, 0);
            Yards.kill(y, 0);
            check.due("killed at " + 50 * count + ", startsIn", 2, y.startsIn(0));
            y.tick(1);
            check.due("killed at " + 50 * count + ", still dead", 'd', y.stateOf(0));
            y.tick(1);
            check.due("killed at " + 50 * count + ", started", 'r', y.stateOf(0));
            check.due("time", 50 * count + 3, y.time());
        }
    }

    private void promise9DelayOneStartsInTheTickOfTheDeath() {
        Swapyard y = Yards.withServices(1);
        y.setLimit(0);
        y.touch(0, 0);
        check.due("one is killed", 1, y.tick(1));
        check.due("and runs again", 'r', y.stateOf(0));
        check.due("by a start", 1, y.starts(0));
        check.due("its page is nowhere", '-', y.placeOf(0, 0));
        check.due("it can be touched at once", 1, y.touch(0, 0));
    }

    private void promise9StartsOnlyIfNeeded() {
        Swapyard y = new Swapyard();
        y.addService(0, 'n', 2);
        y.addService(0, 'a', 1);
        y.touch(0, 0);
        Yards.kill(y, 0);
        y.tick(10);
        check.due("not needed: dead", 'd', y.stateOf(0));
        y.addNeed(1, 0);
        check.due("it starts with the next tick only", 'd', y.stateOf(0));
        check.due("its delay is over", 1, y.startsIn(0));
        y.tick(1);
        check.due("needed: it starts", 'r', y.stateOf(0));
        Swapyard early = new Swapyard();
        early.addService(0, 'n', 3);
        early.addService(0, 'a', 1);
        early.addNeed(1, 0);
        early.touch(0, 0);
        Yards.kill(early, 0);
        early.tick(1);
        check.due("needed, but the delay is not over", 'd', early.stateOf(0));
        early.tick(1);
        check.due("needed, and the delay is over", 'r', early.stateOf(0));
    }

    /** Three services that are all dead, with the needs given as pairs. */
    private static Swapyard allDead(String policies, int delay, int... needs) {
        Swapyard y = new Swapyard();
        for (int i = 0; i < policies.length(); i++) {
            y.addService(0, policies.charAt(i), delay);
        }
        y.setLimit(0);
        for (int i = 0; i < policies.length(); i++) {
            y.touch(i, 0);
            y.tick(1);
        }
        for (int i = 0; i + 1 < needs.length; i += 2) {
            y.addNeed(needs[i], needs[i + 1]);
        }
        return y;
    }

    private void promise9StartsByRisingNumbers() {
        Swapyard up = allDead("ann", 5, 0, 1, 1, 2);
        check.due("all are dead", "ddd", Yards.states(up, 3));
        up.tick(2);
        check.due("0 starts, 1 and 2 wait for their delay", "wdd", Yards.states(up, 3));
        up.tick(1);
        check.due("1 is needed by 0", "wwd", Yards.states(up, 3));
        up.tick(1);
        check.due("2 is needed by 1", "rrr", Yards.states(up, 3));
        Swapyard late = allDead("nna", 5, 2, 1, 1, 0);
        late.tick(4);
        check.due("2 has just started, too late for those ahead of it", "ddw", Yards.states(late, 3));
        late.tick(1);
        check.due("1 is needed, too late for 0", "dww", Yards.states(late, 3));
        late.tick(1);
        check.due("0 is needed at last", "rrr", Yards.states(late, 3));
        Swapyard chain = allDead("nnn", 3);
        chain.addService(100, 'a', 1);
        chain.tick(20);
        check.due("none is needed", "dddr", Yards.states(chain, 4));
        chain.addNeed(3, 0);
        chain.addNeed(0, 1);
        chain.addNeed(1, 2);
        chain.tick(1);
        check.due("each that starts counts for those behind it", "rrrr", Yards.states(chain, 4));
    }

    private void promise9NeededByOneThatWaits() {
        Swapyard y = allDead("nn", 2);
        y.tick(5);
        y.addService(0, 'a', 1);
        y.addNeed(2, 1);
        y.addNeed(2, 0);
        check.due("2 waits and is not dead", "ddw", Yards.states(y, 3));
        check.due("1 is needed by one that does not run", true, y.isNeeded(1));
        y.tick(1);
        check.due("both start for it", "rrr", Yards.states(y, 3));
    }

    private void promise9WrongInputs() {
        int[] strange = {0, 51, -1, Integer.MIN_VALUE, Integer.MAX_VALUE};
        for (int ticks : strange) {
            check.dueThrowWithoutChange("tick " + ticks, ARGUMENT, Yards::busy, y -> y.tick(ticks));
        }
    }

    private void promise10Time() {
        Swapyard y = Yards.withServices(1);
        y.tick(1);
        check.due("time, 1", 1, y.time());
        y.tick(50);
        check.due("time, 51", 51, y.time());
        y.touch(0, 0);
        check.due("touches take no time", 51, y.time());
        y.setLimit(0);
        y.tick(7);
        check.due("time, with a death", 58, y.time());
    }

    private void promise21Pressure() {
        Swapyard y = Yards.withServices(2);
        y.touch(0, 0);
        y.tick(1);
        y.touch(0, 1);
        y.touch(1, 0);
        y.touch(1, 0);
        check.due("pressure, of two ticks", 3, y.pressure());
        y.tick(2);
        check.due("pressure, the first is three ticks ahead", 3, y.pressure());
        y.tick(1);
        check.due("pressure, the first does not count any more", 2, y.pressure());
        y.tick(1);
        check.due("pressure, none", 0, y.pressure());
        check.due("no death without a reason", 0, y.deaths());
        y.setFrames(1);
        y.setRoom(0);
        check.due("pressure, settings make none", 0, y.pressure());
        y.touch(0, 5);
        check.due("pressure, clearing counts", 6, y.pressure());
        Yards.kill(y, 0);
        check.due("pressure, forgotten", 0, y.pressure());
    }

    private void promise23StateOf() {
        Swapyard y = new Swapyard();
        Yards.busy(y);
        check.due("stateOf, dead", 'd', y.stateOf(0));
        check.due("stateOf, runs", 'r', y.stateOf(1));
        check.due("stateOf, needs a dead one", 'w', y.stateOf(2));
        y.addNeed(1, 2);
        check.due("stateOf, needs one that waits", 'w', y.stateOf(1));
        y.tick(4);
        check.due("stateOf, all run again", "rrr", Yards.states(y, 3));
        Swapyard chain = new Swapyard();
        for (int i = 0; i < 6; i++) {
            chain.addService(i == 5 ? 0 : 100, 'a', 3);
        }
        for (int i = 0; i < 5; i++) {
            chain.addNeed(i, i + 1);
        }
        check.due("stateOf, a chain of six runs", "rrrrrr", Yards.states(chain, 6));
        chain.touch(5, 0);
        Yards.kill(chain, 5);
        check.due("stateOf, all of the chain wait", "wwwwwd", Yards.states(chain, 6));
        chain.tick(2);
        check.due("stateOf, the chain runs again", "rrrrrr", Yards.states(chain, 6));
        Swapyard down = new Swapyard();
        for (int i = 0; i < 6; i++) {
            down.addService(i == 1 ? 0 : 100, 'a', 3);
        }
        int[] order = {5, 4, 3, 2, 0, 1};
        for (int i = 0; i < 5; i++) {
            down.addNeed(order[i], order[i + 1]);
        }
        down.touch(1, 0);
        Yards.kill(down, 1);
        check.due("stateOf, a chain by falling numbers waits", "wdwwww", Yards.states(down, 6));
        Swapyard first = new Swapyard();
        for (int i = 0; i < 6; i++) {
            first.addService(i == 1 ? 0 : 100, 'a', 3);
        }
        first.addNeed(0, 2);
        first.addNeed(2, 5);
        first.addNeed(5, 1);
        first.touch(1, 0);
        Yards.kill(first, 1);
        check.due("stateOf, a chain over the last service waits", "wdwrrw", Yards.states(first, 6));
    }

    private void promise24WaitsFor() {
        Swapyard y = Yards.withServices(1);
        for (int i = 1; i < 5; i++) {
            y.addService(i == 3 ? 0 : 100, 'a', 4);
        }
        y.addNeed(0, 4);
        y.addNeed(0, 2);
        y.addNeed(0, 1);
        y.addNeed(2, 3);
        check.dueThrow("waitsFor, all run", ELEMENT, () -> y.waitsFor(0));
        check.dueThrow("waitsFor, no needs", ELEMENT, () -> y.waitsFor(1));
        for (int page = 0; page < 3; page++) {
            y.touch(3, page);
        }
        Yards.kill(y, 3);
        check.due("waitsFor, itself and not by others", 2, y.waitsFor(0));
        check.due("waitsFor, a dead one", 3, y.waitsFor(2));
        check.dueThrow("waitsFor, a dead one that needs none", ELEMENT, () -> y.waitsFor(3));
        y.addNeed(3, 1);
        check.dueThrow("waitsFor, a dead one whose need runs", ELEMENT, () -> y.waitsFor(3));
        Swapyard dead = new Swapyard();
        Yards.busy(dead);
        dead.addNeed(1, 0);
        dead.setLimit(0);
        dead.tick(1);
        check.due("waitsFor, a dead one that needs a dead one", 0, dead.waitsFor(1));
        check.due("it is dead", 'd', dead.stateOf(1));
        check.dueThrowWithoutChange("waitsFor, none", ELEMENT, Yards::busy, z -> z.waitsFor(1));
    }

    private void promise25IsNeeded() {
        Swapyard y = Yards.withServices(3);
        check.due("isNeeded, by none", false, y.isNeeded(1));
        y.addNeed(0, 1);
        y.addNeed(1, 2);
        check.due("isNeeded, itself", true, y.isNeeded(1));
        check.due("isNeeded, the one that needs", false, y.isNeeded(0));
        Swapyard dead = new Swapyard();
        dead.addService(0, 'a', 3);
        dead.addService(0, 'a', 3);
        dead.addService(0, 'a', 3);
        dead.addNeed(0, 1);
        dead.addNeed(1, 2);
        dead.touch(0, 0);
        Yards.kill(dead, 0);
        check.due("isNeeded, by a dead one", false, dead.isNeeded(1));
        check.due("isNeeded, by one that runs", true, dead.isNeeded(2));
        dead.touch(2, 0);
        Yards.kill(dead, 2);
        check.due("isNeeded, dead and by one that waits", true, dead.isNeeded(2));
        dead.tick(1);
        check.due("isNeeded, by one that has started", true, dead.isNeeded(1));
    }

    private void promise26StartsIn() {
        Swapyard y = new Swapyard();
        y.addService(0, 'n', 20);
        check.dueThrow("startsIn, never dead", STATE, () -> y.startsIn(0));
        y.tick(9);
        y.touch(0, 0);
        Yards.kill(y, 0);
        for (int left = 19; left > 1; left--) {
            check.due("startsIn", left, y.startsIn(0));
            y.tick(1);
        }
        check.due("startsIn, the last tick of the delay", 1, y.startsIn(0));
        y.tick(1);
        check.due("startsIn, just over", 1, y.startsIn(0));
        y.tick(50);
        check.due("startsIn, long over", 1, y.startsIn(0));
        check.dueThrowWithoutChange("startsIn, runs", STATE, Yards::busy, z -> z.startsIn(1));
        check.dueThrowWithoutChange("startsIn, waits", STATE, Yards::busy, z -> z.startsIn(2));
        Swapyard again = new Swapyard();
        again.addService(0, 'a', 3);
        again.touch(0, 0);
        Yards.kill(again, 0);
        again.tick(2);
        check.dueThrow("startsIn, started", STATE, () -> again.startsIn(0));
        again.tick(5);
        again.touch(0, 0);
        Yards.kill(again, 0);
        check.due("startsIn, from the later death", 2, again.startsIn(0));
    }

    private void promise27Starts() {
        Swapyard y = Yards.withServices(1);
        y.addService(100, 'a', 1);
        y.touch(0, 0);
        Yards.kill(y, 0);
        check.due("starts", 1, y.starts(0));
        check.due("starts, of the other", 0, y.starts(1));
        Swapyard often = new Swapyard();
        often.addService(0, 'a', 2);
        for (int life = 0; life < 40; life++) {
            check.due("starts", life, often.starts(0));
            check.due("score, " + life + " starts", -20 * life, often.score(0));
            often.touch(0, 0);
            Yards.kill(often, 0);
            check.due("starts, dead", life, often.starts(0));
            often.tick(1);
        }
        check.due("starts, the last", 40, often.starts(0));
    }

    private void promise28Score() {
        Swapyard y = new Swapyard();
        y.addService(13, 'a', 3);
        y.addService(0, 'a', 3);
        check.due("score, no pages", -13, y.score(0));
        y.setFrames(3);
        y.setRoom(5);
        for (int page = 0; page < 6; page++) {
            y.touch(0, page);
        }
        check.due("three, two and one", "3 2 1",
                y.pagesIn(0, 'f') + " " + y.pagesIn(0, 's') + " " + y.pagesIn(0, 'd'));
        check.due("score, of all places", 30 + 6 + 1 - 13, y.score(0));
        check.due("score, of the other", 0, y.score(1));
        Yards.kill(y, 0);
        check.due("score, dead", -13, y.score(0));
        y.tick(2);
        check.due("score, started", -13 - 20, y.score(0));
        y.touch(0, 0);
        check.due("score, started, with a page", 10 - 13 - 20, y.score(0));
    }

    private void promise28AllPagesInOnePlace() {
        Swapyard y = new Swapyard();
        y.addService(3, 'a', 3);
        y.addService(50, 'a', 3);
        y.setFrames(16);
        y.setRoom(60);
        for (int page = 0; page < 8; page++) {
            y.touch(0, page);
        }
        check.due("score, all in frames", 80 - 3, y.score(0));
        y.setFrames(1);
        y.touch(1, 0);
        check.due("score, all in the store", 24 - 3, y.score(0));
        check.due("score, of the one in the frame", 10 - 50, y.score(1));
        y.setRoom(0);
        check.due("score, all on the disk", 8 - 3, y.score(0));
    }

    private void promise29Victim() {
        Swapyard y = new Swapyard();
        y.addService(20, 'a', 3);
        y.addService(10, 'a', 3);
        y.addService(10, 'a', 3);
        check.due("victim, of several the lowest number", 1, y.victim());
        y.touch(2, 0);
        check.due("victim, the greatest score", 2, y.victim());
        y.touch(0, 0);
        y.touch(0, 1);
        check.due("victim, the same score", 0, y.victim());
        Yards.kill(y, 0);
        check.due("victim, the next of those that are not dead", 2, y.victim());
        y.addNeed(1, 0);
        y.touch(2, 1);
        Yards.kill(y, 2);
        check.due("victim, one that waits", 1, y.victim());
        check.dueThrow("victim, no services", ELEMENT, () -> new Swapyard().victim());
        Swapyard dead = allDead("nnn", 1);
        check.dueThrow("victim, all dead", ELEMENT, dead::victim);
        check.due("ticks go on with all dead", 0, dead.tick(5));
    }

    /** Service 0 comes to the score -300; service 1 falls to it by 20 with each start, or passes it by 1. */
    private void promise29LowScores() {
        for (int weight = 9; weight <= 11; weight++) {
            Swapyard y = Yards.withServices(1);
            y.setLimit(0);
            for (int life = 0; life < 15; life++) {
                y.touch(0, 0);
                y.tick(1);
            }
            check.due("score, 15 starts", -300, y.score(0));
            y.addService(weight, 'a', 1);
            for (int life = 0; life < 15; life++) {
                y.touch(1, 0);
                check.due("score, " + life + " starts", 10 - weight - 20 * life, y.score(1));
                check.due("victim, the one with fewer starts", 1, y.victim());
                y.tick(1);
            }
            y.touch(1, 0);
            check.due("score, 15 starts and the weight " + weight, -290 - weight, y.score(1));
            check.due("victim, -300 or " + y.score(1), weight == 9 ? 1 : 0, y.victim());
            y.tick(1);
            check.due("the victim is killed", weight == 9 ? 16 : 15, y.starts(1));
        }
    }

    private void promise29HighScores() {
        for (int weight = 0; weight <= 2; weight++) {
            Swapyard y = new Swapyard();
            y.addService(1, 'a', 3);
            y.addService(weight, 'a', 3);
            y.setFrames(16);
            for (int page = 0; page < 8; page++) {
                y.touch(0, page);
                y.touch(1, page);
            }
            check.due("score, eight pages in frames", 79, y.score(0));
            check.due("score, the other", 80 - weight, y.score(1));
            check.due("victim, 79 or " + y.score(1), weight == 0 ? 1 : 0, y.victim());
        }
    }

    private void promise30Deaths() {
        Swapyard y = Yards.withServices(1);
        y.setLimit(0);
        for (int count = 0; count < 6; count++) {
            check.due("deaths", count, y.deaths());
            y.touch(0, 0);
            y.tick(2);
        }
        check.due("deaths, all", 6, y.deaths());
        check.due("deaths, each behind a start", 6, y.starts(0));
    }

    private void wrongServices() {
        wrongService("stateOf", (y, service) -> y.stateOf(service));
        wrongService("waitsFor", (y, service) -> y.waitsFor(service));
        wrongService("isNeeded", (y, service) -> y.isNeeded(service));
        wrongService("startsIn", (y, service) -> y.startsIn(service));
        wrongService("starts", (y, service) -> y.starts(service));
        wrongService("score", (y, service) -> y.score(service));
    }

    private void wrongService(String name, ServiceCall call) {
        for (int number : NO_SERVICES) {
            check.dueThrowWithoutChange(name + ", service " + number, INDEX, Yards::busy,
                    y -> call.of(y, number));
        }
        check.dueThrow(name + ", no services", INDEX, () -> call.of(new Swapyard(), 0));
    }
}
