import java.util.function.Supplier;

/**
 * Promises 2 to 27: each range of an argument at its ends, and just outside and far outside of them; each order of
 * exceptions; and that a call that throws changes nothing.
 */
public final class EdgesOfArgumentsTest {
    private static final int NONE = BrambleMesh.NONE;
    private static final int SLOW = BrambleMesh.SLOW, WRONG = BrambleMesh.WRONG, LOST = BrambleMesh.LOST, DOWN = BrambleMesh.DOWN;
    private static final int TIMEOUT = BrambleMesh.TIMEOUT, RETRIES = BrambleMesh.RETRIES, HEDGE = BrambleMesh.HEDGE;
    private static final int MIN = Integer.MIN_VALUE;
    private static final int MAX = Integer.MAX_VALUE;
    private static final Check CHECK = new Check();

    /** A call of the mesh with one argument that is tried at its edges. */
    private interface Call {
        void with(BrambleMesh x, int value);
    }

    /** Steps, but no instances and no requests yet. */
    private static BrambleMesh plannedMesh() {
        BrambleMesh x = new BrambleMesh();
        x.step(0, 1, true, 2);
        x.step(0, 2, true, NONE);
        return x;
    }

    /** In tick 3: instances 0 to 4, requests 0 to 2, of which one is going, one is OK and one has failed, calls 0 to 3. */
    private static BrambleMesh busyMesh() {
        BrambleMesh x = plannedMesh();
        for (int service = 0; service <= 3; service++) {
            x.instance(service, 0, 1, 2, 1, 0);
        }
        x.instance(1, 1, 2, 2, 1, 1);
        x.work(1, 4);
        x.canary(1, 60);
        x.fault(3, WRONG, 1);
        x.policy(NONE, NONE, RETRIES, 1);
        x.request(2, true, 30);
        x.request(3, false, 30);
        x.request(0, true, 30);
        x.pass(3);
        return x;
    }

    /** The least and the most are taken; what is below, above and far away is refused. */
    private static void edges(String what, Supplier<BrambleMesh> mesh, int least, int most,
            Class<? extends RuntimeException> due, Call call) {
        for (int value : new int[] {least, most}) {
            CHECK.due(what + " " + value + " is taken", isTaken(mesh.get(), call, value), true);
        }
        for (int value : new int[] {least - 1, most + 1, MIN, MIN + 1, MAX, MAX - 1}) {
            BrambleMesh x = mesh.get();
            CHECK.refused(what + " " + value, x, due, () -> call.with(x, value));
        }
    }

    private static boolean isTaken(BrambleMesh x, Call call, int value) {
        try {
            call.with(x, value);
            return true;
        } catch (RuntimeException e) {
            return false;
        }
    }

    private static void atAnyTime(String what, int least, int most, Class<? extends RuntimeException> due, Call call) {
        edges(what, EdgesOfArgumentsTest::busyMesh, least, most, due, call);
    }

    private static void ahead(String what, int least, int most, Class<? extends RuntimeException> due, Call call) {
        edges(what, EdgesOfArgumentsTest::plannedMesh, least, most, due, call);
    }

    private static void theBusyMeshIsAsTold() {
        BrambleMesh x = busyMesh();
        CHECK.sentence(1, "A new object: No steps, instances and requests.");
        CHECK.due("steps", new BrambleMesh().step(0, 1, true, NONE), 1);
        CHECK.refused("no instance", new BrambleMesh(), Check.NO_SUCH, () -> new BrambleMesh().load(0, true));
        CHECK.refused("no request", new BrambleMesh(), Check.NO_SUCH, () -> new BrambleMesh().requestState(0));
        CHECK.due("tick 3", x.tick(), 3);
        CHECK.due("one is going", x.requestState(2), BrambleMesh.GOING);
        CHECK.due("one is OK", x.requestState(0), BrambleMesh.OK);
        CHECK.due("one has failed", x.requestState(1), BrambleMesh.FAILED);
        CHECK.due("calls", x.calls(), 4);
    }

    private static void promise2() {
        CHECK.sentence(2, "work: service: 0 to 5; throws IndexOutOfBoundsException if there is no such service");
        atAnyTime("service", 0, 5, Check.NO_SUCH, (x, value) -> x.work(value, 1));
        CHECK.sentence(2, "work: ticks: 0 to 50; throws IllegalArgumentException if ticks is out of range");
        atAnyTime("ticks", 0, 50, Check.BAD, (x, value) -> x.work(0, value));
    }

    private static void promise3() {
        CHECK.sentence(3, "step: service: 0 to 5; throws IndexOutOfBoundsException if there is no such service, of any");
        ahead("service", 0, 4, Check.NO_SUCH, (x, value) -> x.step(value == 5 ? 6 : value, 5, true, NONE));
        CHECK.sentence(3, "step: called: throws IndexOutOfBoundsException if there is no such service, of any");
        ahead("called", 1, 5, Check.NO_SUCH, (x, value) -> x.step(0, value == 0 ? NONE : value, true, NONE));
        CHECK.sentence(3, "step: undo: or NONE; throws IndexOutOfBoundsException if there is no such service, of any");
        ahead("undo", NONE, 5, Check.NO_SUCH, (x, value) -> x.step(0, 1, true, value));
        CHECK.sentence(3, "step: called: a service with a greater number; IllegalArgumentException if called is not greater");
        for (int service = 0; service <= 5; service++) {
            for (int called = 0; called <= 5; called++) {
                stepIsGreater(service, called, NONE, called > service);
            }
        }
        CHECK.sentence(3, "step: undo: a service with a greater number than service; IllegalArgumentException if undo is not greater");
        for (int service = 0; service <= 4; service++) {
            for (int undo = 0; undo <= 5; undo++) {
                stepIsGreater(service, 5, undo, undo > service);
            }
        }
        CHECK.sentence(3, "step: undo: a service with a greater number than service (than called it need not be)");
        stepIsGreater(0, 5, 1, true);
        stepIsGreater(0, 3, 3, true);
        stepIsGreater(2, 5, 3, true);
    }

    private static void stepIsGreater(int service, int called, int undo, boolean isTaken) {
        BrambleMesh x = new BrambleMesh();
        String what = "step(" + service + ", " + called + ", true, " + undo + ")";
        if (isTaken) {
            CHECK.due(what, x.step(service, called, true, undo), 1);
        } else {
            CHECK.refused(what, x, Check.BAD, () -> x.step(service, called, true, undo));
        }
    }

    private static void promise4() {
        CHECK.sentence(4, "instance: service: 0 to 5; throws IndexOutOfBoundsException if there is no such service");
        atAnyTime("service", 0, 5, Check.NO_SUCH, (x, value) -> x.instance(value, 0, 1, 1, 0, 0));
        CHECK.sentence(4, "instance: zone: 0 to 2; throws IllegalArgumentException if it is out of range");
        atAnyTime("zone", 0, 2, Check.BAD, (x, value) -> x.instance(0, value, 1, 1, 0, 0));
        CHECK.sentence(4, "instance: weight: 1 to 9; throws IllegalArgumentException if it is out of range");
        atAnyTime("weight", 1, 9, Check.BAD, (x, value) -> x.instance(0, 0, value, 1, 0, 0));
        CHECK.sentence(4, "instance: slots: 1 to 9; throws IllegalArgumentException if it is out of range");
        atAnyTime("slots", 1, 9, Check.BAD, (x, value) -> x.instance(0, 0, 1, value, 0, 0));
        CHECK.sentence(4, "instance: queue: 0 to 9; throws IllegalArgumentException if it is out of range");
        atAnyTime("queue", 0, 9, Check.BAD, (x, value) -> x.instance(0, 0, 1, 1, value, 0));
        CHECK.sentence(4, "instance: version: 0 or 1; throws IllegalArgumentException if it is out of range");
        atAnyTime("version", 0, 1, Check.BAD, (x, value) -> x.instance(0, 0, 1, 1, 0, value));
    }

    private static void promise5() {
        CHECK.sentence(5, "fault: throws IndexOutOfBoundsException if there is no such instance");
        atAnyTime("instance", 0, 4, Check.NO_SUCH, (x, value) -> x.fault(value, WRONG, 1));
        CHECK.refused("of none", new BrambleMesh(), Check.NO_SUCH, () -> new BrambleMesh().fault(0, SLOW, 1));
        CHECK.sentence(5, "fault: what: SLOW to DOWN; throws IllegalArgumentException if what is out of range");
        atAnyTime("what", SLOW, DOWN, Check.BAD, (x, value) -> x.fault(0, value, 0));
        CHECK.sentence(5, "fault: value: 0 to 50 ticks for SLOW; throws IllegalArgumentException if value is out of range");
        atAnyTime("value of SLOW", 0, 50, Check.BAD, (x, value) -> x.fault(0, SLOW, value));
        CHECK.sentence(5, "fault: value: 0 or 1 for others; throws IllegalArgumentException if value is out of range");
        atAnyTime("value of WRONG", 0, 1, Check.BAD, (x, value) -> x.fault(0, WRONG, value));
        atAnyTime("value of LOST", 0, 1, Check.BAD, (x, value) -> x.fault(0, LOST, value));
        atAnyTime("value of DOWN", 0, 1, Check.BAD, (x, value) -> x.fault(0, DOWN, value));
    }

    private static void promise6() {
        CHECK.sentence(6, "policy: caller: 0 to 6, or NONE for all; throws IndexOutOfBoundsException if there is no such caller");
        atAnyTime("caller", NONE, 6, Check.NO_SUCH, (x, value) -> x.policy(value, 0, TIMEOUT, 5));
        CHECK.sentence(6, "policy: service: 0 to 5, or NONE for all; throws IndexOutOfBoundsException if there is no such service");
        atAnyTime("service", NONE, 5, Check.NO_SUCH, (x, value) -> x.policy(NONE, value, TIMEOUT, 5));
        CHECK.sentence(6, "policy: NONE for all, which goes with all callers alone; IllegalArgumentException if a caller is told without a service");
        for (int caller = 0; caller <= 6; caller++) {
            int told = caller;
            BrambleMesh x = busyMesh();
            CHECK.refused("caller " + caller, x, Check.BAD, () -> x.policy(told, NONE, TIMEOUT, 5));
        }
        CHECK.due("all callers", isTaken(busyMesh(), (x, value) -> x.policy(NONE, NONE, TIMEOUT, 5), 0), true);
        CHECK.sentence(6, "policy: part: TIMEOUT, RETRIES, or HEDGE; throws IllegalArgumentException if part is out of range");
        atAnyTime("part", TIMEOUT, HEDGE, Check.BAD, (x, value) -> x.policy(0, 1, value, 3));
        int[][] places = {{NONE, NONE}, {NONE, 0}, {NONE, 5}, {0, 0}, {6, 5}, {5, 0}, {0, 5}};
        CHECK.sentence(6, "policy: TIMEOUT, 1 to 100 ticks; throws IllegalArgumentException if value is out of range");
        for (int[] place : places) {
            atAnyTime("value of TIMEOUT", 1, 100, Check.BAD, (x, value) -> x.policy(place[0], place[1], TIMEOUT, value));
        }
        CHECK.sentence(6, "policy: RETRIES, 0 to 3; throws IllegalArgumentException if value is out of range");
        for (int[] place : places) {
            atAnyTime("value of RETRIES", 0, 3, Check.BAD, (x, value) -> x.policy(place[0], place[1], RETRIES, value));
        }
        CHECK.sentence(6, "policy: HEDGE, 0 to 50 ticks; throws IllegalArgumentException if value is out of range");
        for (int[] place : places) {
            atAnyTime("value of HEDGE", 0, 50, Check.BAD, (x, value) -> x.policy(place[0], place[1], HEDGE, value));
        }
    }

    private static void promises7To10() {
        CHECK.sentence(7, "share: caller: 0 to 6; throws IndexOutOfBoundsException if there is no such caller");
        atAnyTime("caller", 0, 6, Check.NO_SUCH, (x, value) -> x.share(value, 1));
        CHECK.sentence(7, "share: share: 0 to 100; throws IllegalArgumentException if share is out of range");
        atAnyTime("share", 0, 100, Check.BAD, (x, value) -> x.share(0, value));
        CHECK.sentence(8, "eyes: 1 to 7; throws IllegalArgumentException if eyes is out of range");
        atAnyTime("eyes", 1, 7, Check.BAD, (x, value) -> x.eyes(value));
        CHECK.sentence(9, "canary: service: 0 to 5; throws IndexOutOfBoundsException if there is no such service");
        atAnyTime("service", 0, 5, Check.NO_SUCH, (x, value) -> x.canary(value, 1));
        CHECK.sentence(9, "canary: share: 0 to 100; throws IllegalArgumentException if share is out of range");
        atAnyTime("share", 0, 100, Check.BAD, (x, value) -> x.canary(0, value));
        CHECK.sentence(10, "traces: rate: 1 to 10; throws IllegalArgumentException if rate is out of range");
        atAnyTime("rate", 1, 10, Check.BAD, (x, value) -> x.traces(value, 5));
        CHECK.sentence(10, "traces: limit: 1 to 600 ticks; throws IllegalArgumentException if limit is out of range");
        atAnyTime("limit", 1, 600, Check.BAD, (x, value) -> x.traces(2, value));
    }

    private static void promises11And12() {
        CHECK.sentence(11, "request: service: 0 to 5; throws IndexOutOfBoundsException if there is no such service");
        atAnyTime("service", 0, 5, Check.NO_SUCH, (x, value) -> x.request(value, true, 5));
        CHECK.sentence(11, "request: ticks: 1 to 200; throws IllegalArgumentException if ticks is out of range");
        atAnyTime("ticks", 1, 200, Check.BAD, (x, value) -> x.request(0, true, value));
        CHECK.sentence(12, "pass: ticks: 1 to 50; throws IllegalArgumentException if ticks is out of range");
        atAnyTime("ticks", 1, 50, Check.BAD, (x, value) -> x.pass(value));
    }

    private static void promises14To19() {
        CHECK.sentence(14, "requestState: throws IndexOutOfBoundsException if there is no such request");
        atAnyTime("request", 0, 2, Check.NO_SUCH, (x, value) -> x.requestState(value));
        CHECK.sentence(15, "requestTicks: throws IndexOutOfBoundsException if there is no such request");
        atAnyTime("request", 0, 2, Check.NO_SUCH, (x, value) -> x.requestTicks(value));
        CHECK.sentence(16, "isKept: throws IndexOutOfBoundsException if there is no such request");
        atAnyTime("request", 0, 2, Check.NO_SUCH, (x, value) -> x.isKept(value));
        CHECK.sentence(17, "callsOf: throws IndexOutOfBoundsException if there is no such request");
        atAnyTime("request", 0, 2, Check.NO_SUCH, (x, value) -> x.callsOf(value));
        CHECK.sentence(19, "call: throws IndexOutOfBoundsException if there is no such call");
        for (int part = 0; part <= 7; part++) {
            int asked = part;
            atAnyTime("call", 0, 3, Check.NO_SUCH, (x, value) -> x.call(value, asked));
        }
        CHECK.sentence(19, "call: part: 0 its service .. 7 the repair; throws IllegalArgumentException if part is out of range");
        for (int call = 0; call <= 3; call++) {
            int asked = call;
            atAnyTime("part", 0, 7, Check.BAD, (x, value) -> x.call(asked, value));
        }
    }

    private static void promises20To27() {
        CHECK.sentence(20, "budget: caller: 0 to 6; throws IndexOutOfBoundsException if there is no such caller");
        atAnyTime("caller", 0, 6, Check.NO_SUCH, (x, value) -> x.budget(value));
        CHECK.sentence(21, "breaker: caller: 0 to 6; throws IndexOutOfBoundsException if there is no such caller");
        atAnyTime("caller", 0, 6, Check.NO_SUCH, (x, value) -> x.breaker(value, 0));
        CHECK.sentence(21, "breaker: throws IndexOutOfBoundsException if there is no such instance");
        atAnyTime("instance", 0, 4, Check.NO_SUCH, (x, value) -> x.breaker(0, value));
        CHECK.sentence(22, "isShunned: throws IndexOutOfBoundsException if there is no such instance");
        atAnyTime("instance", 0, 4, Check.NO_SUCH, (x, value) -> x.isShunned(value));
        CHECK.sentence(23, "load: throws IndexOutOfBoundsException if there is no such instance");
        atAnyTime("instance, now", 0, 4, Check.NO_SUCH, (x, value) -> x.load(value, true));
        atAnyTime("instance, told", 0, 4, Check.NO_SUCH, (x, value) -> x.load(value, false));
        CHECK.sentence(24, "canaryShare: service: 0 to 5; throws IndexOutOfBoundsException if there is no such service");
        atAnyTime("service", 0, 5, Check.NO_SUCH, (x, value) -> x.canaryShare(value));
        CHECK.sentence(26, "extra: caller: 0 to 6; throws IndexOutOfBoundsException if there is no such caller");
        atAnyTime("caller", 0, 6, Check.NO_SUCH, (x, value) -> x.extra(value));
        CHECK.sentence(27, "first: caller: 0 to 6; throws IndexOutOfBoundsException if there is no such caller");
        atAnyTime("caller", 0, 6, Check.NO_SUCH, (x, value) -> x.first(value));
    }

    /** What is asked of an object that has none yet: not even number 0. */
    private static void nothingThereYet() {
        BrambleMesh x = new BrambleMesh();
        for (int number : new int[] {MIN, -1, 0, 1, MAX}) {
            CHECK.sentence(5, "fault: there is no such instance");
            CHECK.refused("fault of " + number, x, Check.NO_SUCH, () -> x.fault(number, SLOW, 0));
            CHECK.sentence(14, "requestState: there is no such request");
            CHECK.refused("state of " + number, x, Check.NO_SUCH, () -> x.requestState(number));
            CHECK.sentence(15, "requestTicks: there is no such request");
            CHECK.refused("ticks of " + number, x, Check.NO_SUCH, () -> x.requestTicks(number));
            CHECK.sentence(16, "isKept: there is no such request");
            CHECK.refused("trace of " + number, x, Check.NO_SUCH, () -> x.isKept(number));
            CHECK.sentence(17, "callsOf: there is no such request");
            CHECK.refused("calls of " + number, x, Check.NO_SUCH, () -> x.callsOf(number));
            CHECK.sentence(19, "call: there is no such call");
            CHECK.refused("call " + number, x, Check.NO_SUCH, () -> x.call(number, 0));
            CHECK.sentence(21, "breaker: there is no such instance");
            CHECK.refused("breaker to " + number, x, Check.NO_SUCH, () -> x.breaker(0, number));
            CHECK.sentence(22, "isShunned: there is no such instance");
            CHECK.refused("shunned " + number, x, Check.NO_SUCH, () -> x.isShunned(number));
            CHECK.sentence(23, "load: there is no such instance");
            CHECK.refused("load of " + number, x, Check.NO_SUCH, () -> x.load(number, number > 0));
        }
    }

    private static final String FIRST_LISTED = "If several exceptions of a throws clause apply, the one that is listed first is thrown.";

    private static void refusedAs(int promise, String what, BrambleMesh x, Class<? extends RuntimeException> due, Runnable call) {
        CHECK.sentence(promise, FIRST_LISTED);
        CHECK.refused(what, x, due, call);
    }

    private static void noSuchAheadOfOutOfRange() {
        BrambleMesh x = busyMesh();
        for (int no : new int[] {-2, 7, MIN, MAX}) {
            refusedAs(2, "work", x, Check.NO_SUCH, () -> x.work(no, 51));
            refusedAs(2, "work", x, Check.NO_SUCH, () -> x.work(no, -1));
            refusedAs(4, "instance: zone", x, Check.NO_SUCH, () -> x.instance(no, 3, 1, 1, 0, 0));
            refusedAs(4, "instance: weight", x, Check.NO_SUCH, () -> x.instance(no, 0, 0, 1, 0, 0));
            refusedAs(4, "instance: slots", x, Check.NO_SUCH, () -> x.instance(no, 0, 1, 0, 0, 0));
            refusedAs(4, "instance: queue", x, Check.NO_SUCH, () -> x.instance(no, 0, 1, 1, -1, 0));
            refusedAs(4, "instance: version", x, Check.NO_SUCH, () -> x.instance(no, 0, 1, 1, 0, 2));
            refusedAs(5, "fault: what", x, Check.NO_SUCH, () -> x.fault(no, 4, 0));
            refusedAs(5, "fault: value", x, Check.NO_SUCH, () -> x.fault(no, WRONG, 2));
            refusedAs(6, "policy: no caller, and no service", x, Check.NO_SUCH, () -> x.policy(no, NONE, TIMEOUT, 5));
            refusedAs(6, "policy: no caller, part", x, Check.NO_SUCH, () -> x.policy(no, 0, 3, 5));
            refusedAs(6, "policy: no caller, value", x, Check.NO_SUCH, () -> x.policy(no, 0, RETRIES, 4));
            refusedAs(6, "policy: no service, part", x, Check.NO_SUCH, () -> x.policy(0, no, 3, 5));
            refusedAs(6, "policy: no service, value", x, Check.NO_SUCH, () -> x.policy(NONE, no, TIMEOUT, 0));
            refusedAs(7, "share", x, Check.NO_SUCH, () -> x.share(no, 101));
            refusedAs(9, "canary", x, Check.NO_SUCH, () -> x.canary(no, 101));
            refusedAs(11, "request", x, Check.NO_SUCH, () -> x.request(no, true, 0));
            refusedAs(19, "call", x, Check.NO_SUCH, () -> x.call(no == -2 ? -1 : no, 8));
        }
    }

    private static void theOrderForSteps() {
        BrambleMesh x = plannedMesh();
        refusedAs(3, "step: no undo, called not greater", x, Check.NO_SUCH, () -> x.step(2, 2, true, 6));
        refusedAs(3, "step: no called, undo not greater", x, Check.NO_SUCH, () -> x.step(2, 6, true, 2));
        refusedAs(3, "step: no called below, undo not greater", x, Check.NO_SUCH, () -> x.step(2, -1, true, 2));
        refusedAs(3, "step: no service, called lesser", x, Check.NO_SUCH, () -> x.step(6, 5, true, NONE));
        refusedAs(3, "step: no undo below, called not greater", x, Check.NO_SUCH, () -> x.step(2, 2, true, -2));
        x.step(0, 1, true, NONE);
        x.step(0, 1, true, NONE);
        refusedAs(3, "step: a fifth, no undo", x, Check.NO_SUCH, () -> x.step(0, 1, true, 6));
        refusedAs(3, "step: a fifth, no called", x, Check.NO_SUCH, () -> x.step(0, 6, true, NONE));
        refusedAs(3, "step: a fifth, called not greater", x, Check.BAD, () -> x.step(0, 0, true, NONE));
        refusedAs(3, "step: a fifth, undo not greater", x, Check.BAD, () -> x.step(0, 1, true, 0));
        refusedAs(3, "step: a fifth", x, Check.NOT_NOW, () -> x.step(0, 1, true, NONE));
        x.request(0, true, 5);
        refusedAs(3, "step: behind a request, no service", x, Check.NO_SUCH, () -> x.step(-1, 1, true, NONE));
        refusedAs(3, "step: behind a request, no called", x, Check.NO_SUCH, () -> x.step(1, 6, true, 1));
        refusedAs(3, "step: behind a request, called not greater", x, Check.BAD, () -> x.step(1, 1, true, NONE));
        refusedAs(3, "step: behind a request, undo not greater", x, Check.BAD, () -> x.step(1, 2, true, 1));
        refusedAs(3, "step: behind a request", x, Check.NOT_NOW, () -> x.step(1, 2, true, NONE));
        refusedAs(3, "step: a fifth, behind a request", x, Check.NOT_NOW, () -> x.step(0, 1, true, NONE));
    }

    private static void theOrderWhereItIsFull() {
        BrambleMesh x = busyMesh();
        for (int i = 5; i < 12; i++) {
            x.instance(5, 0, 1, 1, 0, 0);
        }
        refusedAs(4, "instance: a 13th of no service", x, Check.NO_SUCH, () -> x.instance(6, 0, 1, 1, 0, 0));
        refusedAs(4, "instance: a 13th, zone", x, Check.BAD, () -> x.instance(0, -1, 1, 1, 0, 0));
        refusedAs(4, "instance: a 13th, weight", x, Check.BAD, () -> x.instance(0, 0, 10, 1, 0, 0));
        refusedAs(4, "instance: a 13th, slots", x, Check.BAD, () -> x.instance(0, 0, 1, 10, 0, 0));
        refusedAs(4, "instance: a 13th, queue", x, Check.BAD, () -> x.instance(0, 0, 1, 1, 10, 0));
        refusedAs(4, "instance: a 13th, version", x, Check.BAD, () -> x.instance(0, 0, 1, 1, 0, -1));
        refusedAs(4, "instance: a 13th", x, Check.NOT_NOW, () -> x.instance(0, 0, 1, 1, 0, 0));
        for (int i = 3; i < 40; i++) {
            x.request(4, true, 5);
        }
        refusedAs(11, "request: a 41st of no service", x, Check.NO_SUCH, () -> x.request(6, true, 5));
        refusedAs(11, "request: a 41st of no service, ticks", x, Check.NO_SUCH, () -> x.request(-1, true, 201));
        refusedAs(11, "request: a 41st, ticks", x, Check.BAD, () -> x.request(0, true, 201));
        refusedAs(11, "request: a 41st", x, Check.NOT_NOW, () -> x.request(0, true, 5));
        for (int i = 0; i < 11; i++) {
            x.pass(50);
        }
        x.pass(47);
        refusedAs(12, "pass: 51 from tick 600", x, Check.BAD, () -> x.pass(51));
        refusedAs(12, "pass: 0 from tick 600", x, Check.BAD, () -> x.pass(0));
        refusedAs(12, "pass: the most from tick 600", x, Check.BAD, () -> x.pass(MAX));
        refusedAs(12, "pass: 1 from tick 600", x, Check.NOT_NOW, () -> x.pass(1));
        refusedAs(12, "pass: 50 from tick 600", x, Check.NOT_NOW, () -> x.pass(50));
    }

    public static void main(String[] args) {
        theBusyMeshIsAsTold();
        promise2();
        promise3();
        promise4();
        promise5();
        promise6();
        promises7To10();
        promises11And12();
        promises14To19();
        promises20To27();
        nothingThereYet();
        noSuchAheadOfOutOfRange();
        theOrderForSteps();
        theOrderWhereItIsFull();
        CHECK.end();
    }
}
