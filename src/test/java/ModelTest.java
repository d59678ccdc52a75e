import java.util.Random;

/** Promises 1 to 27 together: long runs of right calls, in each of which the class answers as the Model does. */
public final class ModelTest {
    private static final int RUNS = 1200;
    private static final int CALLS = 512;
    private static final int NONE = BrambleMesh.NONE;
    private static final Check CHECK = new Check();

    private final BrambleMesh x = new BrambleMesh();
    private final Model m = new Model();
    private final Random random;
    /** Runs differ in how much there is of each: work, room, faults. */
    private final int mostWork;
    private final int mostRoom;
    private final int faultsIn;
    private final int longest;
    private final int undosIn;
    private final boolean isWide;
    private int calls;

    private ModelTest(long seed) {
        random = new Random(seed);
        isWide = oneIn(8);
        undosIn = some(1, 3);
        mostWork = isWide ? 50 : some(1, 6);
        mostRoom = some(1, 9);
        faultsIn = some(2, 7);
        longest = isWide ? 50 : oneIn(4) ? 12 : 3;
    }

    private int some(int least, int most) {
        return least + random.nextInt(most - least + 1);
    }

    private boolean oneIn(int count) {
        return random.nextInt(count) == 0;
    }

    private void same(String what, long got, long due) {
        calls++;
        CHECK.due(what, got, due);
    }

    private void setUp() {
        int services = some(2, 6);
        for (int service = 0; service < services - 1; service++) {
            for (int i = some(0, 3) + (service == 0 ? 1 : 0); i > 0; i--) {
                step(service, services - 1);
            }
        }
        for (int i = some(services, 12); i > 0; i--) {
            instance(i <= services ? i - 1 : some(0, services - 1));
        }
        for (int i = some(4, 14); i > 0; i--) {
            policy();
        }
        for (int i = some(0, 6); i > 0; i--) {
            seldom();
        }
    }

    private void step(int service, int last) {
        int called = some(service + 1, last);
        boolean isSafe = oneIn(2);
        int undo = oneIn(undosIn) ? some(service + 1, last) : NONE;
        if (m.requests() == 0 && m.planned(service) < 4) {
            same("step", x.step(service, called, isSafe, undo), m.step(service, called, isSafe, undo));
        }
    }

    private void instance(int service) {
        int zone = oneIn(2) ? 0 : some(0, 2);
        int weight = some(1, 9);
        int slots = some(1, mostRoom);
        int queue = some(0, mostRoom);
        int version = some(0, 1);
        if (m.instances() < 12) {
            int made = x.instance(service, zone, weight, slots, queue, version);
            same("instance", made, m.instance(service, zone, weight, slots, queue, version));
        }
    }

    private void policy() {
        int service = oneIn(4) ? NONE : some(0, 5);
        int caller = service == NONE || oneIn(3) ? NONE : oneIn(3) ? 6 : some(0, 5);
        int part = some(0, 2);
        int value = part == 0 ? some(1, isWide ? 100 : 15) : part == 1 ? some(0, 3) : some(0, isWide ? 50 : 5);
        same("policy", x.policy(caller, service, part, value), m.policy(caller, service, part, value));
    }

    private void fault() {
        int instance = some(0, m.instances() - 1);
        int what = some(0, 3);
        int value = !oneIn(faultsIn) ? 0 : what == 0 ? some(1, isWide ? 50 : 9) : 1;
        same("fault", x.fault(instance, what, value), m.fault(instance, what, value));
    }

    private void seldom() {
        int service = some(0, 5);
        int caller = some(0, 6);
        switch (random.nextInt(7)) {
            case 0:
                int ticks = some(0, mostWork);
                same("work", x.work(service, ticks), m.work(service, ticks));
                break;
            case 1:
                int added = some(0, 100);
                same("share", x.share(caller, added), m.share(caller, added));
                break;
            case 2:
                int eyes = oneIn(2) ? some(1, 2) : some(1, 7);
                same("eyes", x.eyes(eyes), m.eyes(eyes));
                break;
            case 3: case 4:
                int share = some(0, 100);
                same("canary", x.canary(service, share), m.canary(service, share));
                break;
            case 5:
                int rate = some(1, 10);
                int limit = some(1, isWide ? 60 : 20);
                x.traces(rate, limit);
                m.traces(rate, limit);
                calls++;
                break;
            default:
                instance(service);
        }
    }

    private void request() {
        int service = oneIn(3) ? some(0, 5) : 0;
        boolean isSafe = oneIn(2);
        int ticks = oneIn(4) ? some(1, 9) : some(5, isWide ? 200 : 60);
        if (m.requests() < 40) {
            same("request", x.request(service, isSafe, ticks), m.request(service, isSafe, ticks));
        }
    }

    private void pass() {
        int ticks = oneIn(12) ? some(1, 30) : some(1, longest);
        if (m.tick() + ticks <= 600) {
            same("pass", x.pass(ticks), m.pass(ticks));
        }
    }

    private void live() {
        setUp();
        for (int i = 0; i < 150 && calls < CALLS; i++) {
            switch (random.nextInt(10)) {
                case 0: case 1: case 2: request(); break;
                case 3: case 4: case 5: case 6: pass(); break;
                case 7: case 8: fault(); break;
                default:
                    if (oneIn(2)) {
                        policy();
                    } else {
                        seldom();
                    }
            }
            if (i % 4 == 3 || i > 140) {
                compare();
            }
        }
    }

    private void compare() {
        CHECK.due("tick", x.tick(), m.tick());
        CHECK.due("calls", x.calls(), m.calls());
        CHECK.due("repairs", x.repairs(false), m.repairs(false));
        CHECK.due("repairs made", x.repairs(true), m.repairs(true));
        for (int call = 0; call < Math.min(x.calls(), m.calls()); call++) {
            for (int part = 0; part <= 7; part++) {
                CHECK.due("part " + part + " of a call", x.call(call, part), m.call(call, part));
            }
        }
        for (int request = 0; request < m.requests(); request++) {
            CHECK.due("state of a request", x.requestState(request), m.requestState(request));
            CHECK.due("ticks of a request", x.requestTicks(request), m.requestTicks(request));
            CHECK.due("trace of a request", x.isKept(request), m.isKept(request));
            CHECK.due("calls of a request", x.callsOf(request), m.callsOf(request));
        }
        for (int caller = 0; caller <= 6; caller++) {
            CHECK.due("budget", x.budget(caller), m.budget(caller));
            CHECK.due("extra tries", x.extra(caller), m.extra(caller));
            CHECK.due("first tries", x.first(caller), m.first(caller));
            for (int instance = 0; instance < m.instances(); instance++) {
                CHECK.due("breaker", x.breaker(caller, instance), m.breaker(caller, instance));
            }
        }
        for (int instance = 0; instance < m.instances(); instance++) {
            CHECK.due("load now", x.load(instance, true), m.load(instance, true));
            CHECK.due("load as told", x.load(instance, false), m.load(instance, false));
            CHECK.due("shunned", x.isShunned(instance), m.isShunned(instance));
        }
        for (int service = 0; service <= 5; service++) {
            CHECK.due("canary share", x.canaryShare(service), m.canaryShare(service));
        }
    }

    public static void main(String[] args) {
        int runs = args.length > 0 ? Integer.parseInt(args[0]) : RUNS;
        for (int seed = 0; seed < runs && CHECK.isFine(); seed++) {
            CHECK.sentence(12, "all promises together, run " + seed);
            new ModelTest(seed).live();
        }
        CHECK.end();
    }
}
