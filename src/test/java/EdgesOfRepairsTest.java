/** Promise 25: repairs at their edges: which calls leave some, for which steps, in which order, and how they are tried. */
public final class EdgesOfRepairsTest {
    private static final int ALL = BrambleMesh.NONE;
    private static final int NONE = BrambleMesh.NONE;
    private static final int CLIENT = BrambleMesh.CLIENT;
    private static final int SLOW = BrambleMesh.SLOW, WRONG = BrambleMesh.WRONG, LOST = BrambleMesh.LOST, DOWN = BrambleMesh.DOWN;
    private static final int TIMEOUT = BrambleMesh.TIMEOUT, RETRIES = BrambleMesh.RETRIES, HEDGE = BrambleMesh.HEDGE;
    private static final int QUEUED = BrambleMesh.QUEUED, RUNNING = BrambleMesh.RUNNING, CALLING = BrambleMesh.CALLING;
    private static final int OK = BrambleMesh.OK, FAILED = BrambleMesh.FAILED, LATE = BrambleMesh.LATE;
    private static final int REFUSED = BrambleMesh.REFUSED, OFF = BrambleMesh.OFF;
    private static final Check CHECK = new Check();

    /** One instance with room for all in each service, and no retries. */
    private static BrambleMesh wideMesh() {
        BrambleMesh x = new BrambleMesh();
        x.policy(ALL, ALL, RETRIES, 0);
        for (int service = 0; service <= 5; service++) {
            x.instance(service, 0, 1, 9, 9, 0);
        }
        return x;
    }

    /** The services of the calls that are tries of repairs, in their order, as digits behind a 9. */
    private static int undoing(BrambleMesh x) {
        int digits = 9;
        for (int call = 0; call < x.calls(); call++) {
            if (x.call(call, 7) != NONE) {
                digits = digits * 10 + x.call(call, 0);
            }
        }
        return digits;
    }

    private static void noneAtFirst() {
        CHECK.sentence(25, "Returns how many repairs there are. made: whether just those that are made are counted");
        BrambleMesh x = new BrambleMesh();
        CHECK.due("none", x.repairs(false), 0);
        CHECK.due("none made", x.repairs(true), 0);
        BrambleMesh y = wideMesh();
        y.step(0, 1, true, 4);
        y.step(0, 1, true, 5);
        y.step(0, 2, true, NONE);
        y.fault(2, WRONG, 1);
        y.fault(4, WRONG, 1);
        y.request(0, true, 50);
        y.pass(4);
        CHECK.due("two", y.repairs(false), 2);
        CHECK.due("none made yet", y.repairs(true), 0);
        y.pass(1);
        CHECK.due("still two", y.repairs(false), 2);
        CHECK.due("one of them made", y.repairs(true), 1);
        y.fault(4, WRONG, 0);
        y.pass(1);
        CHECK.due("both made", y.repairs(true), 2);
        CHECK.due("of two", y.repairs(false), 2);
    }

    private static void otherwiseThanOk() {
        CHECK.sentence(25, "When a call ends otherwise than OK (OK: none)");
        BrambleMesh x = wideMesh();
        x.step(0, 1, true, 5);
        x.request(0, true, 50);
        x.pass(9);
        CHECK.due("OK", x.call(0, 2), OK);
        CHECK.due("none", x.repairs(false), 0);
        CHECK.sentence(25, "When a call ends otherwise than OK (FAILED)");
        BrambleMesh y = wideMesh();
        y.step(0, 1, true, 5);
        y.fault(1, WRONG, 1);
        y.request(0, true, 50);
        y.pass(2);
        CHECK.due("FAILED", y.call(0, 2), FAILED);
        CHECK.due("one", y.repairs(false), 1);
        CHECK.sentence(25, "When a call ends otherwise than OK (LATE)");
        BrambleMesh z = wideMesh();
        z.step(0, 1, true, 5);
        z.work(1, 9);
        z.request(0, true, 3);
        z.pass(2);
        CHECK.due("not ahead of its end", z.repairs(false), 0);
        z.pass(1);
        CHECK.due("LATE", z.call(0, 2), LATE);
        CHECK.due("one", z.repairs(false), 1);
        CHECK.sentence(25, "When a call ends otherwise than OK (OFF)");
        BrambleMesh w = wideMesh();
        w.instance(0, 0, 1, 9, 9, 0);
        w.step(0, 1, true, 5);
        w.policy(CLIENT, 0, HEDGE, 1);
        w.instance(1, 0, 1, 9, 9, 0);
        w.fault(1, SLOW, 30);
        w.request(0, true, 50);
        w.pass(3);
        CHECK.due("OFF", w.call(0, 2), OFF);
        CHECK.due("the hedge is OK", w.call(2, 2), OK);
        CHECK.due("one, for the one that is OFF", w.repairs(false), 1);
    }

    private static void stepsWithAnUndo() {
        CHECK.sentence(25, "for each of its steps .. that has a service that undoes it");
        BrambleMesh x = wideMesh();
        x.step(0, 1, true, NONE);
        x.step(0, 1, true, 5);
        x.step(0, 1, true, NONE);
        x.step(0, 2, true, NONE);
        x.fault(2, WRONG, 1);
        x.request(0, true, 50);
        x.pass(5);
        CHECK.due("one of four", undoing(x), 95);
        CHECK.sentence(25, "for each of its steps (none that has not begun)");
        BrambleMesh y = wideMesh();
        for (int i = 0; i < 4; i++) {
            y.step(0, 1, true, 2 + i);
        }
        y.request(0, true, 50);
        y.pass(2);
        y.fault(1, WRONG, 1);
        y.pass(1);
        CHECK.due("two have begun", y.call(0, 6), 2);
        CHECK.due("the second, which has FAILED, then the first", undoing(y), 932);
        CHECK.sentence(25, "for each of its steps (none of a call without any)");
        BrambleMesh z = wideMesh();
        z.fault(5, WRONG, 1);
        z.request(5, true, 50);
        z.pass(3);
        CHECK.due("none", z.repairs(false), 0);
        CHECK.sentence(25, "for each of its steps (a request is no call)");
        CHECK.due("the request has failed", z.requestState(0), FAILED);
        CHECK.due("none for it", z.repairs(false), 0);
    }

    private static void aCallHasRun() {
        CHECK.sentence(25, "and a call of which has run (not one that was REFUSED)");
        BrambleMesh x = wideMesh();
        x.step(0, 1, true, 5);
        x.fault(1, DOWN, 1);
        x.request(0, true, 50);
        x.pass(3);
        CHECK.due("FAILED", x.call(0, 2), FAILED);
        CHECK.due("none", x.repairs(false), 0);
        CHECK.sentence(25, "and a call of which has run (not one without a call)");
        BrambleMesh y = new BrambleMesh();
        y.instance(0, 0, 1, 9, 9, 0);
        y.instance(5, 0, 1, 9, 9, 0);
        y.step(0, 1, true, 5);
        y.request(0, true, 50);
        y.pass(3);
        CHECK.due("FAILED", y.call(0, 2), FAILED);
        CHECK.due("none", y.repairs(false), 0);
        CHECK.sentence(25, "and a call of which has run (not one that was queued to its end)");
        CHECK.due("queued", repairsOfQueued(false), 0);
        CHECK.sentence(25, "and a call of which has run (also one that has just begun to run)");
        CHECK.due("it began in the tick ahead of its end", repairsOfQueued(true), 1);
        CHECK.sentence(25, "and a call of which has run (one of several, the others REFUSED)");
        BrambleMesh z = wideMesh();
        z.instance(1, 0, 1, 9, 9, 0);
        z.policy(0, 1, RETRIES, 3);
        z.step(0, 1, false, 5);
        z.fault(1, DOWN, 1);
        z.fault(6, WRONG, 1);
        z.request(0, true, 50);
        z.pass(2);
        CHECK.due("REFUSED, FAILED", z.call(1, 2) * 10 + z.call(2, 2), 64);
        CHECK.due("one for both", z.repairs(false), 1);
        CHECK.sentence(25, "and a call of which has run (its reply is lost)");
        BrambleMesh w = wideMesh();
        w.step(0, 1, false, 5);
        w.fault(1, LOST, 1);
        w.request(0, true, 6);
        w.pass(6);
        CHECK.due("OK, but lost", w.call(1, 2), OK);
        CHECK.due("one", w.repairs(false), 1);
    }

    /** Call 2 is queued behind call 0, till its call is LATE in tick 6; or it runs from tick 5. */
    private static int repairsOfQueued(boolean isRunAtLast) {
        BrambleMesh x = new BrambleMesh();
        x.policy(ALL, ALL, RETRIES, 0);
        x.instance(0, 0, 1, 9, 9, 0);
        x.instance(1, 0, 1, 1, 1, 0);
        x.step(0, 1, true, 5);
        x.work(1, isRunAtLast ? 5 : 6);
        x.request(1, true, 50);
        x.request(0, true, 6);
        x.pass(5);
        CHECK.due("its state ahead of its end", x.call(2, 2), isRunAtLast ? RUNNING : QUEUED);
        x.pass(1);
        CHECK.due("OFF", x.call(2, 2), OFF);
        return x.repairs(false);
    }

    private static void theirOrder() {
        CHECK.sentence(25, "from the latest one backwards");
        BrambleMesh x = wideMesh();
        x.step(0, 1, true, 5);
        x.step(0, 1, true, 3);
        x.step(0, 1, true, 4);
        x.step(0, 1, true, 2);
        x.work(1, 2);
        x.request(0, true, 8);
        x.pass(8);
        CHECK.due("2, 4, 3, 5", undoing(x), 92435);
        CHECK.sentence(25, "behind the ends of calls of its steps by that");
        BrambleMesh y = wideMesh();
        y.step(0, 1, true, 5);
        y.step(1, 2, true, 4);
        y.step(2, 4, true, 3);
        y.work(4, 9);
        y.request(0, true, 6);
        y.pass(6);
        CHECK.due("the inmost first", undoing(y), 9345);
        CHECK.sentence(25, "behind the ends of calls of its steps by that (its own steps only behind all of these)");
        BrambleMesh z = wideMesh();
        z.step(0, 1, true, 5);
        z.step(0, 1, true, 4);
        z.step(1, 2, true, 3);
        z.work(2, 2);
        z.request(0, true, 6);
        z.pass(6);
        CHECK.due("two have begun", z.call(0, 6), 2);
        CHECK.due("that of the call of the second, then the second, then the first", undoing(z), 9345);
    }

    private static void asAStep() {
        CHECK.sentence(25, "a step of the service of this call that calls the one that undoes (its caller)");
        BrambleMesh x = wideMesh();
        x.step(0, 1, true, NONE);
        x.step(1, 2, true, 5);
        x.fault(2, WRONG, 1);
        x.fault(5, DOWN, 1);
        x.policy(0, 5, TIMEOUT, 3);
        x.policy(1, 5, TIMEOUT, 4);
        x.policy(CLIENT, 5, TIMEOUT, 6);
        x.request(0, true, 90);
        x.pass(5);
        CHECK.due("a call of the repair", x.call(3, 7) * 10 + x.call(3, 0), 5);
        CHECK.due("by the policy of service 1", x.call(3, 3), 7);
        CHECK.due("by the breaker of service 1", x.breaker(1, 5), BrambleMesh.OPEN);
        CHECK.due("not by that of service 0", x.breaker(0, 5), BrambleMesh.CLOSED);
        CHECK.sentence(25, "a step .. without an instance of its own (in zone 0, for no call)");
        BrambleMesh y = wideMesh();
        y.instance(2, 2, 1, 9, 9, 0);
        y.step(0, 1, true, 2);
        y.fault(1, WRONG, 1);
        y.instance(0, 2, 9, 9, 9, 0);
        y.fault(0, DOWN, 1);
        y.policy(CLIENT, 0, RETRIES, 1);
        y.request(0, true, 50);
        CHECK.due("a call in zone 2", y.call(1, 1), 7);
        y.pass(2);
        CHECK.due("a call of the repair", y.call(3, 7), 0);
        CHECK.due("in zone 0", y.call(3, 1), 2);
        CHECK.due("of no call", y.call(3, 4), NONE);
        CHECK.due("of no request", y.call(3, 5), NONE);
    }

    private static void oneInATick() {
        CHECK.sentence(25, "if none of its tries is out, there is another one, one in a tick at the most");
        BrambleMesh x = wideMesh();
        x.policy(ALL, 5, RETRIES, 3);
        x.policy(ALL, 5, HEDGE, 1);
        for (int i = 0; i < 4; i++) {
            x.instance(5, 0, 1, 9, 9, 0);
        }
        x.step(0, 1, true, 5);
        x.fault(1, WRONG, 1);
        for (int i : new int[] {5, 6, 7, 8, 9}) {
            x.fault(i, DOWN, 1);
        }
        x.request(0, true, 50);
        x.pass(2);
        for (int tries = 1; tries <= 5; tries++) {
            CHECK.due("REFUSED at once, one for each tick", x.calls(), 2 + tries);
            CHECK.due("where it was not", x.call(1 + tries, 1), tries == 1 ? 5 : 4 + tries);
            x.pass(1);
        }
        CHECK.sentence(25, "if none of its tries is out, there is another one (one that is out keeps it back, no hedge)");
        BrambleMesh y = wideMesh();
        y.policy(ALL, 5, RETRIES, 3);
        y.policy(ALL, 5, HEDGE, 1);
        y.instance(5, 0, 1, 9, 9, 0);
        y.step(0, 1, true, 5);
        y.fault(1, WRONG, 1);
        y.work(5, 6);
        y.fault(5, WRONG, 1);
        y.request(0, true, 50);
        y.pass(7);
        CHECK.due("one try", undoing(y), 95);
        y.pass(1);
        CHECK.due("FAILED, and another one in the same tick", undoing(y), 955);
        y.pass(6);
        CHECK.due("OK", y.repairs(true), 1);
        y.pass(20);
        CHECK.due("until one is OK", undoing(y), 955);
        CHECK.sentence(25, "there is another one, one in a tick at the most (without a call as well)");
        BrambleMesh z = new BrambleMesh();
        z.policy(ALL, ALL, RETRIES, 0);
        z.instance(0, 0, 1, 9, 9, 0);
        z.instance(1, 0, 1, 9, 9, 0);
        z.step(0, 1, true, 5);
        z.fault(1, WRONG, 1);
        z.canary(5, 10);
        z.request(0, true, 50);
        z.pass(10);
        z.instance(5, 0, 1, 9, 9, 0);
        z.instance(5, 0, 1, 9, 9, 1);
        z.pass(1);
        CHECK.due("the tenth try, from tick 2 to tick 11", z.call(2, 1), 3);
    }

    private static void asAFirstOne() {
        CHECK.sentence(25, "there is another one .. as a first one, until one is OK (not by retries, safe or not, nor by a budget)");
        BrambleMesh x = wideMesh();
        x.policy(ALL, ALL, TIMEOUT, 100);
        x.step(0, 1, false, 5);
        x.step(0, 4, false, NONE);
        x.share(0, 0);
        x.policy(0, 4, RETRIES, 3);
        x.fault(4, DOWN, 1);
        x.fault(5, WRONG, 1);
        for (int i = 0; i < 3; i++) {
            x.request(0, false, 50);
            x.pass(2);
        }
        CHECK.due("three", x.repairs(false), 3);
        x.pass(40);
        CHECK.due("none is made", x.repairs(true), 0);
        int budget = x.budget(0);
        int extra = x.extra(0);
        int first = x.first(0);
        x.fault(5, WRONG, 0);
        x.pass(30);
        CHECK.due("made in the end", x.repairs(true), 3);
        CHECK.due("three, still", x.repairs(false), 3);
        CHECK.due("no budget", x.budget(0), budget);
        CHECK.due("no extra ones", x.extra(0), extra);
        CHECK.due("no first ones", x.first(0), first);
        CHECK.sentence(25, "until one is OK (FAILED, LATE and a reply that is lost are none)");
        BrambleMesh y = wideMesh();
        y.step(0, 1, false, 5);
        y.policy(0, 5, TIMEOUT, 3);
        y.fault(1, WRONG, 1);
        y.fault(5, LOST, 1);
        y.request(0, false, 50);
        y.pass(3);
        CHECK.due("OK, but lost", y.call(2, 2), OK);
        CHECK.due("not made", y.repairs(true), 0);
        y.pass(1);
        CHECK.due("nor tried again ahead of its deadline", y.calls(), 3);
        y.fault(5, LOST, 0);
        y.work(5, 9);
        y.pass(1);
        CHECK.due("tried again at it", y.calls(), 4);
        y.work(5, 1);
        y.pass(2);
        CHECK.due("out", y.calls(), 4);
        y.pass(1);
        CHECK.due("LATE: again", y.calls() * 10 + y.call(3, 2), 55);
        y.pass(1);
        CHECK.due("made", y.repairs(true), 1);
        y.pass(20);
        CHECK.due("once", y.calls(), 5);
    }

    private static void inFive() {
        CHECK.sentence(12, "5. Requests .. then repairs that are not made, by rising numbers: ends are looked at, then there is a try.");
        BrambleMesh x = new BrambleMesh();
        x.policy(ALL, ALL, RETRIES, 0);
        x.instance(0, 0, 1, 9, 9, 0);
        x.instance(1, 0, 1, 9, 9, 0);
        x.instance(5, 0, 1, 1, 0, 0);
        x.step(0, 1, true, 5);
        x.step(0, 1, true, 5);
        x.request(0, true, 50);
        x.request(0, true, 50);
        x.pass(2);
        x.fault(1, WRONG, 1);
        x.pass(1);
        CHECK.due("two for each", x.repairs(false), 4);
        CHECK.due("a try for each, in the tick in which they begin", undoing(x), 95555);
        int first = x.calls() - 4;
        for (int i = 0; i < 4; i++) {
            CHECK.due("by rising numbers", x.call(first + i, 7), i);
            CHECK.due("one slot", x.call(first + i, 2), i == 0 ? RUNNING : REFUSED);
        }
        CHECK.due("three REFUSED", x.breaker(0, 2), BrambleMesh.OPEN);
        x.pass(1);
        CHECK.due("the first one is made", x.repairs(true), 1);
        CHECK.due("OPEN: no other call", x.calls(), first + 4);
        x.pass(9);
        CHECK.due("HALF: one other call", x.calls(), first + 5);
        CHECK.due("of the first that is not made", x.call(first + 4, 7), 1);
        x.pass(1);
        CHECK.due("made", x.repairs(true), 2);
    }

    /** The calls of a repair have steps, which pay, which end with it, and which are undone in their turn. */
    private static void stepsOfRepairs() {
        CHECK.sentence(25, "When a call ends otherwise than OK (a call of a repair: another repair)");
        BrambleMesh x = wideMesh();
        x.step(0, 1, true, 2);
        x.step(2, 3, true, 4);
        x.policy(0, 2, TIMEOUT, 5);
        x.work(3, 9);
        x.fault(1, WRONG, 1);
        x.request(0, true, 50);
        x.pass(3);
        CHECK.due("the call of the repair is CALLING", x.call(2, 2), CALLING);
        CHECK.due("its step is a first try of its service", x.first(2), 1);
        x.pass(4);
        CHECK.due("LATE", x.call(2, 2), LATE);
        CHECK.due("OFF", x.call(3, 2), OFF);
        CHECK.due("two repairs", x.repairs(false), 2);
        CHECK.due("the first one is tried again, the second one begins", undoing(x), 9224);
    }

    public static void main(String[] args) {
        noneAtFirst();
        otherwiseThanOk();
        stepsWithAnUndo();
        aCallHasRun();
        theirOrder();
        asAStep();
        oneInATick();
        asAFirstOne();
        inFive();
        stepsOfRepairs();
        CHECK.end();
    }
}
