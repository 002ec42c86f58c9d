/** Objects that several tests begin with. */
final class Yards {
    private Yards() {
    }

    static Swapyard withServices(int count) {
        Swapyard y = new Swapyard();
        addServices(y, count);
        return y;
    }

    static void addServices(Swapyard y, int count) {
        for (int i = 0; i < count; i++) {
            y.addService(0, 'a', 1);
        }
    }

    /**
     * Three services: 0 is dead and starts in 4 ticks, 1 runs with two pages in frames (2 at frame 0, 3 at
     * frame 1, the hand at 0), 0 on the disk and 1 in the store, 2 needs 0 and waits.
     */
    static void busy(Swapyard y) {
        y.addService(0, 'a', 5);
        y.addService(7, 'n', 2);
        y.addService(9, 'a', 3);
        y.addNeed(2, 0);
        y.setLimit(0);
        y.touch(0, 7);
        y.tick(1);
        y.setLimit(45);
        y.setRoom(3);
        y.setFrames(2);
        for (int page = 0; page < 4; page++) {
            y.touch(1, page);
        }
        y.touch(1, 3);
    }

    /** Six services with a page each in a frame or in the store. */
    static void full(Swapyard y) {
        addServices(y, 6);
        for (int service = 0; service < 6; service++) {
            y.touch(service, service);
        }
    }

    /**
     * Six services, the most there can be, at tick 3 with stalls in ticks 1, 2 and 3: 0 is dead and starts in 6
     * ticks; 2 needs it and waits, 3 needs 2; 1, 4 and 5 run. Page 5 of service 1 is in frame 0, page 7 of
     * service 5 in frame 1, page 4 of service 1 in frame 2 and not referenced; the hand is at frame 2. The
     * store holds the pages 2 and 3 of service 1; its pages 0 and 1 and page 6 of service 2 are on the disk.
     */
    static void crowded(Swapyard y) {
        y.addService(0, 'a', 9);
        y.addService(7, 'n', 2);
        y.addService(9, 'a', 3);
        y.addService(100, 'n', 20);
        y.addService(50, 'a', 1);
        y.addService(0, 'n', 5);
        y.addNeed(2, 0);
        y.addNeed(2, 1);
        y.addNeed(3, 2);
        y.addNeed(5, 4);
        y.setFrames(3);
        y.setRoom(5);
        y.setSize(1, 0, 1);
        y.setSize(1, 1, 3);
        touchPages(y, 2, 6);
        touchPages(y, 0, 0, 1);
        y.setLimit(0);
        y.tick(1);
        y.setLimit(500);
        touchPages(y, 1, 0);
        y.tick(1);
        touchPages(y, 1, 1, 2, 3, 4);
        y.tick(1);
        touchPages(y, 1, 5);
        touchPages(y, 5, 7);
    }

    /**
     * For two new services: a touch of page 0 of service 1 now makes 31 stalls. It is on the disk, page 4 of service
     * 0 with the size 4 is in the only frame, and four pages of the size 1 fill the store.
     */
    static void beforeTheMostStalls(Swapyard y) {
        y.setFrames(1);
        y.setRoom(0);
        for (int page = 0; page < 4; page++) {
            y.setSize(0, page, 1);
        }
        y.setSize(0, 4, 4);
        y.touch(1, 0);
        y.touch(0, 0);
        y.setRoom(4);
        touchPages(y, 0, 1, 2, 3, 4);
    }

    static void touchPages(Swapyard y, int service, int... pages) {
        for (int page : pages) {
            y.touch(service, page);
        }
    }

    /** Lets one tick pass with the limit 0, in which the given service must be the victim. */
    static void kill(Swapyard y, int victim) {
        if (y.victim() != victim) {
            throw new IllegalStateException("the test meant another victim");
        }
        int before = y.setLimit(0);
        if (y.tick(1) != 1) {
            throw new IllegalStateException("the test has made no stalls");
        }
        y.setLimit(before);
    }

    static String states(Swapyard y, int services) {
        StringBuilder text = new StringBuilder();
        for (int i = 0; i < services; i++) {
            text.append(y.stateOf(i));
        }
        return text.toString();
    }

    /** The places of the pages 0 to 7 of a service. */
    static String places(Swapyard y, int service) {
        StringBuilder text = new StringBuilder();
        for (int page = 0; page < 8; page++) {
            text.append(y.placeOf(service, page));
        }
        return text.toString();
    }
}
