import java.util.NoSuchElementException;

/** The boundary cases of "Terms" that ticks and victims name; each sentence has a test of its own. */
public final class TicksBoundaryTest {
    private static final Class<IllegalStateException> STATE = IllegalStateException.class;
    private static final Class<NoSuchElementException> ELEMENT = NoSuchElementException.class;

    private final Check check = new Check();

    public static void main(String[] args) {
        TicksBoundaryTest test = new TicksBoundaryTest();
        test.kills();
        test.starts();
        test.victims();
        test.check.end();
    }

    private void kills() {
        check.sentence("Ticks", "Time is counted in ticks, from 0.", this::timeFromZero);
        check.sentence("Ticks", "the stalls of the present tick and of the three ticks ahead of it",
                this::threeTicksAheadAndNoMore);
        check.sentence("Ticks", "as far as they have not been forgotten", this::forgottenStallsDoNotCount);
        check.sentence("Ticks", "are together more than the limit", this::asManyAsTheLimitIsNotMore);
        check.sentence("Ticks", "the limit, at first 40", this::limitFortyAtFirst);
        check.sentence("Ticks", "if there is a service that is not dead", this::noServiceThatIsNotDead);
        check.sentence("Ticks", "all stalls of these ticks are forgotten", this::allFourTicksAreForgotten);
        check.sentence("Ticks", "Then the time grows by 1.", this::timeGrowsBehindTheKill);
    }

    private void starts() {
        check.sentence("Ticks", "each dead service starts if at least as many ticks as its delay have passed since "
                + "it was killed", this::startsWithTheLastTickOfItsDelay);
        check.sentence("Ticks", "its policy is 'a' or it is needed", this::neverStartsWithoutAReason);
        check.sentence("Ticks", "by rising numbers", this::tooLateForThoseAhead);
        check.sentence("Ticks", "it is not dead any more, and counts so for those behind it",
                this::wholeChainStartsInOneTick);
        check.sentence("Ticks", "(A service with the delay 1 can start in the tick in which it is killed.)",
                this::delayOneStartsAtOnce);
    }

    private void victims() {
        check.sentence("Victims", "The score of a service is 10 times the number of its pages in frames, plus 3 "
                + "times that of its pages in the store, plus that of its pages on the disk, minus its weight, "
                + "minus 20 times the number of its starts.", this::scoreWithoutPagesAndWithAll);
        check.sentence("Victims", "The victim is the service with the greatest score of those that are not dead",
                this::greatestScoreByOne);
        check.sentence("Victims", "of several the one with the lowest number", this::lowestNumberOfSeveral);
        check.sentence("Victims", "It is dead then, and all its pages are nowhere", this::allItsPagesAreNowhere);
        check.sentence("Victims", "pages in the store keep their order", this::storeKeepsItsOrder);
    }

    /** Makes up to 16 stalls in the present tick of an object that has no pages in frames yet. */
    private static void stallInFreeFrames(Swapyard y, int stalls) {
        y.setFrames(16);
        for (int i = 0; i < stalls; i++) {
            y.touch(i / 8, i % 8);
        }
    }

    private void timeFromZero() {
        Swapyard y = new Swapyard();
        check.due("time", 0, y.time());
        y.tick(1);
        check.due("time behind one tick", 1, y.time());
    }

    private void threeTicksAheadAndNoMore() {
        for (int passed = 0; passed <= 5; passed++) {
            Swapyard y = Yards.withServices(1);
            y.touch(0, 0);
            for (int tick = 0; tick < passed; tick++) {
                y.tick(1);
            }
            y.setLimit(0);
            check.due("pressure " + passed + " ticks behind a stall", passed <= 3 ? 1 : 0, y.pressure());
            check.due("tick " + passed + " ticks behind a stall", passed <= 3 ? 1 : 0, y.tick(1));
        }
        Swapyard y = Yards.withServices(1);
        y.setFrames(16);
        for (int page = 0; page < 8; page++) {
            check.due("pressure, one stall in each tick but the present one", Math.min(page, 3), y.pressure());
            y.touch(0, page);
            check.due("pressure, one stall in each tick", Math.min(page, 3) + 1, y.pressure());
            y.tick(1);
        }
    }

    private void forgottenStallsDoNotCount() {
        Swapyard y = Yards.withServices(2);
        y.setLimit(2);
        stallInFreeFrames(y, 3);
        check.due("three are more than 2", 1, y.tick(1));
        Yards.touchPages(y, 1, 0, 1);
        check.due("two anew, three forgotten", 2, y.pressure());
        check.due("are not more than 2", 0, y.tick(1));
        y.touch(1, 2);
        check.due("three that are not forgotten", 1, y.tick(1));
        Swapyard four = Yards.withServices(1);
        four.setLimit(3);
        for (int page = 0; page < 4; page++) {
            check.due("one stall in each of four ticks", 0, four.deaths());
            four.touch(0, page);
            four.tick(1);
        }
        check.due("four are more than 3", 1, four.deaths());
        Yards.touchPages(four, 0, 0, 1, 2);
        check.due("three anew, those of the ticks ahead forgotten", 3, four.pressure());
        check.due("are not more than 3", 0, four.tick(1));
    }

    private void asManyAsTheLimitIsNotMore() {
        for (int limit = 0; limit <= 15; limit++) {
            Swapyard y = Yards.withServices(2);
            y.setLimit(limit);
            stallInFreeFrames(y, limit);
            check.due("tick, " + limit + " stalls", 0, y.tick(1));
            check.due("they still count", limit, y.pressure());
            y.touch(limit / 8, limit % 8);
            check.due("one more", limit + 1, y.pressure());
            check.due("tick, " + (limit + 1) + " stalls", 1, y.tick(1));
        }
    }

    private void limitFortyAtFirst() {
        Swapyard y = Yards.withServices(3);
        y.setRoom(60);
        for (int i = 0; i < 4 + 18; i++) {
            y.touch(i / 8, i % 8);
        }
        check.due("4 stalls without and 36 with a clearing", 40, y.pressure());
        check.due("tick, 40 stalls", 0, y.tick(1));
        y.setFrames(5);
        y.touch(2, 7);
        check.due("one more", 41, y.pressure());
        check.due("tick, 41 stalls", 1, y.tick(1));
    }

    private void noServiceThatIsNotDead() {
        Swapyard none = new Swapyard();
        none.setLimit(0);
        check.due("tick, no services", 0, none.tick(50));
        check.due("deaths, no services", 0, none.deaths());
        Swapyard y = new Swapyard();
        y.addService(0, 'n', 1);
        y.addService(0, 'a', 20);
        y.setLimit(0);
        for (int service = 0; service < 2; service++) {
            y.touch(service, 0);
            check.due("tick, one that is not dead", 1, y.tick(1));
        }
        check.due("all are dead", "dd", Yards.states(y, 2));
        check.due("tick, all dead", 0, y.tick(18));
        check.due("deaths, all dead", 2, y.deaths());
    }

    private void allFourTicksAreForgotten() {
        Swapyard y = Yards.withServices(1);
        y.setLimit(3);
        for (int page = 0; page < 4; page++) {
            y.touch(0, page);
            check.due("pressure", page + 1, y.pressure());
            check.due("tick", page == 3 ? 1 : 0, y.tick(1));
        }
        check.due("pressure behind the death", 0, y.pressure());
        y.setLimit(0);
        check.due("tick, none left", 0, y.tick(1));
        Swapyard each = Yards.withServices(1);
        stallInFreeFrames(each, 8);
        each.setLimit(0);
        check.due("one death only for all stalls of one tick", 1, each.tick(50));
        check.due("stallsOf does not forget", 8L, each.stallsOf(0));
    }

    private void timeGrowsBehindTheKill() {
        Swapyard y = new Swapyard();
        y.addService(0, 'a', 3);
        y.tick(50);
        y.touch(0, 0);
        Yards.kill(y, 0);
        check.due("time", 51, y.time());
        check.due("the tick of the death counts for its delay", 2, y.startsIn(0));
        y.tick(50);
        check.due("time behind 50 ticks", 101, y.time());
    }

    private void startsWithTheLastTickOfItsDelay() {
        int[] killedAt = {0, 1, 7};
        for (int delay = 2; delay <= 20; delay++) {
            for (int time : killedAt) {
                Swapyard y = new Swapyard();
                y.addService(0, 'a', delay);
                for (int tick = 0; tick < time; tick++) {
                    y.tick(1);
                }
                y.touch(0, 0);
                Yards.kill(y, 0);
                if (delay > 2) {
                    y.tick(delay - 2);
                }
                check.due("stateOf, one tick less than " + delay, 'd', y.stateOf(0));
                y.tick(1);
                check.due("stateOf, as many ticks as " + delay, 'r', y.stateOf(0));
                check.due("starts", 1, y.starts(0));
            }
        }
    }

    private void neverStartsWithoutAReason() {
        Swapyard y = new Swapyard();
        y.addService(0, 'n', 1);
        y.addService(100, 'a', 1);
        y.touch(0, 0);
        Yards.kill(y, 0);
        y.tick(50);
        check.due("'n', not needed, its delay long over", 'd', y.stateOf(0));
        y.addNeed(1, 0);
        y.tick(1);
        check.due("'n', needed", 'r', y.stateOf(0));
        Swapyard early = new Swapyard();
        early.addService(0, 'n', 2);
        early.addService(100, 'a', 1);
        early.addNeed(1, 0);
        early.touch(0, 0);
        Yards.kill(early, 0);
        check.due("'n', needed, its delay not over", 'd', early.stateOf(0));
        early.tick(1);
        check.due("'n', needed, its delay over", 'r', early.stateOf(0));
        Swapyard always = Yards.withServices(1);
        always.touch(0, 0);
        Yards.kill(always, 0);
        check.due("'a', not needed", 'r', always.stateOf(0));
    }

    /** Services 0 and 1 with the policy 'n' are dead and their delays over, when 2 starts, which needs one. */
    private static Swapyard lastStarts(int needed) {
        Swapyard y = new Swapyard();
        y.addService(0, 'n', 1);
        y.addService(0, 'n', 1);
        y.addService(0, 'a', 2);
        y.addService(0, 'n', 1);
        for (int service = 0; service < 4; service++) {
            if (service != 2) {
                y.touch(service, 0);
                Yards.kill(y, service);
            }
        }
        y.touch(2, 0);
        Yards.kill(y, 2);
        y.addNeed(2, needed);
        return y;
    }

    private void tooLateForThoseAhead() {
        for (int needed = 0; needed < 2; needed++) {
            Swapyard ahead = lastStarts(needed);
            check.due("all are dead", "dddd", Yards.states(ahead, 4));
            ahead.tick(1);
            check.due("2 starts, too late for " + needed, "ddwd", Yards.states(ahead, 4));
            ahead.tick(1);
            check.due("one tick later it starts", needed == 0 ? "rdrd" : "drrd", Yards.states(ahead, 4));
        }
        Swapyard behind = lastStarts(3);
        behind.tick(1);
        check.due("2 starts, in time for 3", "ddrr", Yards.states(behind, 4));
    }

    private void wholeChainStartsInOneTick() {
        Swapyard y = new Swapyard();
        for (int service = 0; service < 6; service++) {
            y.addService(0, service == 0 ? 'a' : 'n', service == 0 ? 6 : 1);
        }
        for (int service = 0; service < 6; service++) {
            y.touch(service, 0);
            Yards.kill(y, service);
        }
        check.due("0 has just started", "rddddd", Yards.states(y, 6));
        for (int service = 0; service < 5; service++) {
            y.addNeed(service, service + 1);
        }
        y.tick(1);
        check.due("each counts for the next", "rrrrrr", Yards.states(y, 6));
    }

    private void delayOneStartsAtOnce() {
        Swapyard y = new Swapyard();
        y.addService(0, 'a', 1);
        y.addService(100, 'a', 2);
        y.touch(0, 0);
        Yards.kill(y, 0);
        check.due("stateOf, delay 1", 'r', y.stateOf(0));
        check.due("starts, delay 1", 1, y.starts(0));
        check.due("deaths", 1, y.deaths());
        check.dueThrow("startsIn, delay 1", STATE, () -> y.startsIn(0));
        Swapyard two = new Swapyard();
        two.addService(0, 'a', 2);
        two.touch(0, 0);
        Yards.kill(two, 0);
        check.due("stateOf, delay 2", 'd', two.stateOf(0));
        check.due("startsIn, delay 2", 1, two.startsIn(0));
    }

    private void scoreWithoutPagesAndWithAll() {
        Swapyard y = new Swapyard();
        y.addService(0, 'a', 1);
        y.addService(100, 'a', 1);
        check.due("score, no pages, the least weight", 0, y.score(0));
        check.due("score, no pages, the greatest weight", -100, y.score(1));
        y.setFrames(8);
        Yards.touchPages(y, 0, 0, 1, 2, 3, 4, 5, 6, 7);
        check.due("score, all pages in frames", 80, y.score(0));
        y.setRoom(14);
        y.setFrames(1);
        check.due("score, one in a frame, seven in the store", 10 + 3 * 7, y.score(0));
        y.setRoom(0);
        check.due("score, one in a frame, seven on the disk", 10 + 7, y.score(0));
        Yards.kill(y, 0);
        check.due("score, one start", -20, y.score(0));
        for (int starts = 2; starts <= 5; starts++) {
            y.touch(0, 0);
            Yards.kill(y, 0);
            check.due("score, more starts", -20 * starts, y.score(0));
        }
    }

    private void greatestScoreByOne() {
        for (int weight = 9; weight <= 11; weight++) {
            Swapyard y = new Swapyard();
            y.addService(10, 'a', 2);
            y.addService(weight, 'a', 2);
            check.due("victim, weight 10 or " + weight, weight < 10 ? 1 : 0, y.victim());
        }
        Swapyard y = new Swapyard();
        y.addService(5, 'n', 1);
        y.addService(100, 'a', 1);
        y.touch(0, 0);
        Yards.kill(y, 0);
        check.due("score of the dead one, the greatest", -5, y.score(0));
        check.due("victim, the only one that is not dead", 1, y.victim());
        y.touch(1, 0);
        y.setLimit(0);
        check.due("tick kills it", 1, y.tick(1));
        check.due("starts", 1, y.starts(1));
    }

    private void lowestNumberOfSeveral() {
        Swapyard y = new Swapyard();
        for (int service = 0; service < 6; service++) {
            y.addService(5, 'n', 1);
        }
        y.setFrames(16);
        y.setLimit(0);
        for (int service = 0; service < 6; service++) {
            check.due("victim, of the same scores", service, y.victim());
            for (int other = service; other < 6; other++) {
                y.touch(other, service);
            }
            check.due("victim, with as many pages each", service, y.victim());
            check.due("tick", 1, y.tick(1));
            check.due("stateOf", 'd', y.stateOf(service));
        }
        check.dueThrow("victim, none left", ELEMENT, y::victim);
    }

    private void allItsPagesAreNowhere() {
        Swapyard y = new Swapyard();
        y.addService(0, 'a', 5);
        y.addService(100, 'a', 5);
        y.setFrames(3);
        y.setRoom(5);
        Yards.touchPages(y, 0, 0, 1, 2, 3, 4, 5, 6, 7);
        check.due("its pages are in each place", "dddssfff", Yards.places(y, 0));
        check.due("hand", 2, y.hand());
        Yards.kill(y, 0);
        check.due("hand, where it was", 2, y.hand());
        check.due("stateOf", 'd', y.stateOf(0));
        check.due("places", "--------", Yards.places(y, 0));
        for (int page = 0; page < 8; page++) {
            check.due("placeByEvents", '-', y.placeByEvents(0, page));
            check.due("isReferenced", false, y.isReferenced(0, page));
        }
        check.due("free", 3, y.free());
        check.due("stored", 0, y.stored());
        check.due("onDisk", 0, y.onDisk());
        check.due("the frames hold others then", 1, y.touch(1, 0));
    }

    private void storeKeepsItsOrder() {
        Swapyard y = new Swapyard();
        y.addService(0, 'a', 5);
        y.addService(100, 'a', 5);
        y.setFrames(1);
        y.setRoom(60);
        int[] services = {0, 1, 1, 0, 0, 1, 0, 1};
        for (int page = 0; page < 8; page++) {
            y.touch(services[page], page);
        }
        check.due("the store", "0 9 10 3 4 13 6", Snapshot.store(y));
        Yards.kill(y, 0);
        check.due("the store behind the death of service 0", "9 10 13", Snapshot.store(y));
        check.due("stored", 6, y.stored());
        check.due("the next one comes behind them", 1 + 1, y.touch(1, 0));
        check.due("the store", "9 10 13 15", Snapshot.store(y));
    }
}
