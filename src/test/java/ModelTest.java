import java.util.Random;

/** Runs of 512 calls, each answer held against the plain model's; the seeds are fixed. */
public final class ModelTest {
    private static final int RUNS = 600;
    private static final int CALLS = 512;
    private static final int[] STRANGE = {Integer.MIN_VALUE, -1, 6, 8, 17, 61, 1000, Integer.MAX_VALUE};

    private final Check check = new Check();
    private final Random random;
    private final Swapyard yard = new Swapyard();
    private final Model model = new Model();
    private final int firstServices;
    private final int mostFrames;
    private final int mostRoom;
    private final int mostLimit;
    private final int mostTicks;

    private ModelTest(int seed) {
        random = new Random(seed);
        firstServices = random.nextInt(7);
        mostFrames = random.nextBoolean() ? 4 : 17;
        mostRoom = random.nextBoolean() ? 12 : 62;
        mostLimit = random.nextBoolean() ? 30 : 300;
        mostTicks = random.nextBoolean() ? 2 : 6;
    }

    public static void main(String[] args) {
        for (int seed = 0; seed < RUNS; seed++) {
            new ModelTest(seed).run(seed);
        }
    }

    private void run(int seed) {
        for (int call = 0; call < CALLS; call++) {
            String name = "seed " + seed + ", call " + call + ", ";
            if (call < firstServices) {
                addService(name);
            } else {
                step(name);
            }
        }
        check.end();
    }

    private void step(String name) {
        int kind = random.nextInt(100);
        if (kind < 40) {
            touch(name);
        } else if (kind < 50) {
            int ticks = random.nextInt(20) == 0 ? any(52) : 1 + random.nextInt(mostTicks);
            same(name + "tick " + ticks, () -> yard.tick(ticks), () -> model.tick(ticks));
        } else if (kind < 62) {
            set(name);
        } else if (kind < 80) {
            askPage(name);
        } else if (kind < 92) {
            askService(name);
        } else {
            askAll(name);
        }
    }

    private int any(int bound) {
        return random.nextInt(30) == 0 ? STRANGE[random.nextInt(STRANGE.length)] : random.nextInt(bound);
    }

    private void addService(String name) {
        int weight = random.nextInt(10) == 0 ? any(102) : random.nextInt(30);
        char policy = random.nextInt(25) == 0 ? 'x' : random.nextBoolean() ? 'a' : 'n';
        int delay = random.nextInt(10) == 0 ? any(22) : 1 + random.nextInt(6);
        same(name + "addService", () -> yard.addService(weight, policy, delay),
                () -> model.addService(weight, policy, delay));
    }

    private void touch(String name) {
        int service = any(6);
        int page = any(8);
        same(name + "touch " + service + " " + page, () -> yard.touch(service, page),
                () -> model.touch(service, page));
    }

    private void set(String name) {
        int service = any(6);
        int other = any(6);
        int page = any(8);
        int size = any(6);
        int frames = any(mostFrames + 1);
        int room = any(mostRoom);
        int limit = any(mostLimit);
        switch (random.nextInt(7)) {
            case 0 -> addService(name);
            case 1 -> same(name + "addNeed " + service + " " + other, () -> yard.addNeed(service, other),
                    () -> model.addNeed(service, other));
            case 2, 3 -> same(name + "setSize", () -> yard.setSize(service, page, size),
                    () -> model.setSize(service, page, size));
            case 4 -> same(name + "setFrames", () -> yard.setFrames(frames), () -> model.setFrames(frames));
            case 5 -> same(name + "setRoom", () -> yard.setRoom(room), () -> model.setRoom(room));
            default -> same(name + "setLimit", () -> yard.setLimit(limit), () -> model.setLimit(limit));
        }
    }

    private void askPage(String name) {
        int s = any(6);
        int p = any(8);
        switch (random.nextInt(5)) {
            case 0 -> same(name + "placeOf", () -> yard.placeOf(s, p), () -> model.placeOf(s, p));
            case 1 -> same(name + "placeByEvents", () -> yard.placeByEvents(s, p), () -> model.placeOf(s, p));
            case 2 -> same(name + "frameOf", () -> yard.frameOf(s, p), () -> model.frameOf(s, p));
            case 3 -> same(name + "isReferenced", () -> yard.isReferenced(s, p), () -> model.isReferenced(s, p));
            default -> same(name + "storedAt", () -> yard.storedAt(p), () -> model.storedAt(p));
        }
    }

    private void askService(String name) {
        int s = any(6);
        char place = "fsd-x".charAt(random.nextInt(5));
        switch (random.nextInt(8)) {
            case 0 -> same(name + "pagesIn", () -> yard.pagesIn(s, place), () -> model.pagesIn(s, place));
            case 1 -> same(name + "stallsOf", () -> yard.stallsOf(s), () -> model.stallsOf(s));
            case 2 -> same(name + "stateOf", () -> yard.stateOf(s), () -> model.stateOf(s));
            case 3 -> same(name + "waitsFor", () -> yard.waitsFor(s), () -> model.waitsFor(s));
            case 4 -> same(name + "isNeeded", () -> yard.isNeeded(s), () -> model.isNeeded(s));
            case 5 -> same(name + "startsIn", () -> yard.startsIn(s), () -> model.startsIn(s));
            case 6 -> same(name + "starts", () -> yard.starts(s), () -> model.starts(s));
            default -> same(name + "score", () -> yard.score(s), () -> model.score(s));
        }
    }

    private void askAll(String name) {
        switch (random.nextInt(11)) {
            case 0 -> same(name + "time", yard::time, model::time);
            case 1 -> same(name + "hand", yard::hand, model::hand);
            case 2 -> same(name + "free", yard::free, model::free);
            case 3 -> same(name + "stored", yard::stored, model::stored);
            case 4 -> same(name + "onDisk", yard::onDisk, model::onDisk);
            case 5 -> same(name + "pressure", yard::pressure, model::pressure);
            case 6 -> same(name + "victim", yard::victim, model::victim);
            case 7 -> same(name + "deaths", yard::deaths, model::deaths);
            case 8 -> same(name + "smoothShare", yard::smoothShare, model::smoothShare);
            case 9 -> same(name + "meanStalls", yard::meanStalls, model::meanStalls);
            default -> same(name + "isSound", yard::isSound, () -> true);
        }
    }

    private void same(String name, Check.Call got, Check.Call due) {
        check.due(name, Check.outcome(due), Check.outcome(got));
    }
}
