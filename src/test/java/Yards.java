/** Objects that several tests begin with. */
final class Yards {
    private Yards() {
    }

    static Swapyard withServices(int count) {
        Swapyard y = new Swapyard();
        addServices(y, count);
        return y;
    }

    static void addServices(Swapyard y, int count) {
        for (int i = 0; i < count; i++) {
            y.addService(0, 'a', 1);
        }
    }

    /**
     * Three services: 0 is dead and starts in 4 ticks, 1 runs with two pages in frames (2 at frame 0, 3 at
     * frame 1, the hand at 0), 0 on the disk and 1 in the store, 2 needs 0 and waits.
     */
    static void busy(Swapyard y) {
        y.addService(0, 'a', 5);
        y.addService(7, 'n', 2);
        y.addService(9, 'a', 3);
        y.addNeed(2, 0);
        y.setLimit(0);
        y.touch(0, 7);
        y.tick(1);
        y.setLimit(45);
        y.setRoom(3);
        y.setFrames(2);
        for (int page = 0; page < 4; page++) {
            y.touch(1, page);
        }
        y.touch(1, 3);
    }

    /** Six services with a page each in a frame or in the store. */
    static void full(Swapyard y) {
        addServices(y, 6);
        for (int service = 0; service < 6; service++) {
            y.touch(service, service);
        }
    }
}
