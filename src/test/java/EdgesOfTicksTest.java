/** A tick in its parts at their edges, what is by rising and by falling numbers, and an object's last calls. */
public final class EdgesOfTicksTest {
    private static final int ALL = BrambleMesh.NONE;
    private static final int NONE = BrambleMesh.NONE;
    private static final int CLIENT = BrambleMesh.CLIENT;
    private static final int SLOW = BrambleMesh.SLOW, WRONG = BrambleMesh.WRONG, LOST = BrambleMesh.LOST, DOWN = BrambleMesh.DOWN;
    private static final int TIMEOUT = BrambleMesh.TIMEOUT, RETRIES = BrambleMesh.RETRIES, HEDGE = BrambleMesh.HEDGE;
    private static final int QUEUED = BrambleMesh.QUEUED, RUNNING = BrambleMesh.RUNNING, CALLING = BrambleMesh.CALLING;
    private static final int OK = BrambleMesh.OK, FAILED = BrambleMesh.FAILED, LATE = BrambleMesh.LATE;
    private static final int REFUSED = BrambleMesh.REFUSED, OFF = BrambleMesh.OFF, GOING = BrambleMesh.GOING;
    private static final Check CHECK = new Check();

    /** An instance with many slots in each of the services 0 to 5, and no retries. */
    private static BrambleMesh wideMesh() {
        BrambleMesh x = new BrambleMesh();
        x.policy(ALL, ALL, RETRIES, 0);
        x.policy(ALL, ALL, TIMEOUT, 100);
        for (int service = 0; service <= 5; service++) {
            x.instance(service, 0, 1, 9, 9, 0);
        }
        return x;
    }

    /** The services of the calls that are tries of repairs, in their order, as digits behind a 9. */
    private static int undoing(BrambleMesh x) {
        int digits = 9;
        for (int call = 0; call < x.calls(); call++) {
            if (x.call(call, 7) != NONE) {
                digits = digits * 10 + x.call(call, 0);
            }
        }
        return digits;
    }

    private static void aheadOfAnyTick() {
        CHECK.sentence(11, "(A request makes its first try when it is made, ahead of any tick.)");
        BrambleMesh x = wideMesh();
        x.request(0, true, 9);
        CHECK.due("a call in tick 0", x.tick() * 10 + x.calls(), 1);
        CHECK.due("it runs", x.call(0, 2), RUNNING);
        x.pass(1);
        CHECK.due("it has run ahead of tick 1", x.call(0, 2), OK);
        x.fault(0, DOWN, 1);
        x.policy(CLIENT, 0, RETRIES, 2);
        x.request(0, false, 9);
        CHECK.due("all that goes on at once, goes on ahead of any tick", x.calls(), 4);
        CHECK.due("as far as its end", x.requestState(1), FAILED);
    }

    /** 1. */
    private static void breakersFirst() {
        CHECK.sentence(12, "1. The tick goes on by 1. Breakers whose 10 ticks are over become HALF. (ahead of 4. and 5.)");
        BrambleMesh x = wideMesh();
        x.step(0, 1, true, NONE);
        x.policy(0, 1, RETRIES, 2);
        x.fault(1, DOWN, 1);
        x.request(0, true, 9);
        x.pass(1);
        CHECK.due("OPEN in tick 1", x.breaker(0, 1), BrambleMesh.OPEN);
        x.fault(1, DOWN, 0);
        x.work(0, 9);
        x.pass(1);
        x.request(0, true, 50);
        x.pass(8);
        CHECK.due("OPEN in tick 10", x.breaker(0, 1), BrambleMesh.OPEN);
        int calls = x.calls();
        x.pass(1);
        CHECK.due("HALF in tick 11", x.breaker(0, 1), BrambleMesh.HALF);
        CHECK.due("chosen in tick 11", x.calls(), calls + 1);
        CHECK.due("by the step of service 0", x.call(calls, 0), 1);
    }

    /** 2. */
    private static void lateByRisingNumbers() {
        CHECK.sentence(12, "2. Each call that has not ended, by rising numbers, whose deadline has come, ends, LATE. (the order of repairs)");
        for (int turn = 0; turn < 2; turn++) {
            BrambleMesh x = wideMesh();
            x.step(0, 2, true, 4);
            x.step(1, 2, true, 5);
            x.work(2, 50);
            x.request(turn, true, 6);
            x.request(1 - turn, true, 6);
            x.pass(6);
            CHECK.due("both LATE", x.call(0, 2) * 10 + x.call(1, 2), 55);
            CHECK.due("the lower number's repair first", undoing(x), turn == 0 ? 945 : 954);
        }
    }

    /** 3. */
    private static void whatRanAheadOfThisTick() {
        CHECK.sentence(12, "3. Each call that ran ahead of this tick .. and has done its work (work 0, from the queue in 6. and from 4. and 5.)");
        BrambleMesh x = new BrambleMesh();
        x.policy(ALL, ALL, RETRIES, 0);
        x.instance(0, 0, 1, 1, 3, 0);
        x.work(0, 0);
        for (int i = 0; i < 4; i++) {
            x.request(0, true, 50);
        }
        for (int tick = 1; tick <= 4; tick++) {
            x.pass(1);
            for (int i = 0; i < 4; i++) {
                int due = i < tick ? OK : i == tick ? RUNNING : QUEUED;
                CHECK.due("tick " + tick + ", call " + i, x.call(i, 2), due);
            }
        }
        BrambleMesh y = wideMesh();
        y.step(0, 1, true, NONE);
        y.step(1, 2, true, NONE);
        for (int service = 0; service <= 2; service++) {
            y.work(service, 0);
        }
        y.request(0, true, 50);
        for (int tick = 1; tick <= 2; tick++) {
            y.pass(1);
            CHECK.due("one service in each tick", y.calls(), tick + 1);
            CHECK.due("it runs", y.call(tick, 2), RUNNING);
        }
        y.pass(1);
        CHECK.due("OK in tick 3", y.requestTicks(0) * 10 + y.requestState(0), 33);
    }

    /** 3. and 4.: how far an end is seen in the tick in which it is. */
    private static void knownAtOnce() {
        CHECK.sentence(12, "Its end is known to whoever made it at once (OK, FAILED, LATE of the inmost call, up to the request)");
        int[] ends = {OK, FAILED, LATE};
        for (int end : ends) {
            BrambleMesh x = wideMesh();
            for (int service = 0; service <= 3; service++) {
                x.step(service, service + 1, true, NONE);
            }
            x.work(4, 3);
            x.fault(4, WRONG, end == FAILED ? 1 : 0);
            x.policy(3, 4, TIMEOUT, end == LATE ? 3 : 9);
            x.request(0, true, 50);
            x.pass(6);
            CHECK.due("all go on", x.requestState(0), GOING);
            x.pass(1);
            CHECK.due("the inmost one", x.call(4, 2), end);
            for (int call = 0; call <= 3; call++) {
                CHECK.due("call " + call + " by " + end, x.call(call, 2), end == OK ? OK : FAILED);
            }
            CHECK.due("the request by " + end, x.requestState(0), end == OK ? OK : FAILED);
        }
    }

    /** 4. */
    private static void callingByFallingNumbers() {
        CHECK.sentence(12, "4. Each call that is CALLING as 4. begins, by falling numbers: its step goes on");
        BrambleMesh x = new BrambleMesh();
        x.policy(ALL, ALL, RETRIES, 0);
        x.instance(0, 0, 1, 9, 9, 0);
        x.instance(1, 0, 1, 2, 1, 0);
        x.step(0, 1, true, NONE);
        for (int i = 0; i < 4; i++) {
            x.request(0, true, 50);
        }
        x.pass(1);
        int[] of = {3, 2, 1, 0};
        int[] states = {RUNNING, RUNNING, QUEUED, REFUSED};
        for (int i = 0; i < 4; i++) {
            CHECK.due("whose step it is", x.call(4 + i, 4), of[i]);
            CHECK.due("its state", x.call(4 + i, 2), states[i]);
        }
        CHECK.due("the last one has failed", x.requestState(0), FAILED);
        CHECK.sentence(12, "4. .. ends that are known are looked at, then a retry, or a hedge (of calls, ahead of those of requests)");
        BrambleMesh y = wideMesh();
        y.step(0, 2, true, NONE);
        y.policy(0, 2, HEDGE, 3);
        y.policy(CLIENT, 2, HEDGE, 4);
        y.work(2, 9);
        y.request(2, true, 50);
        y.request(0, true, 50);
        y.pass(4);
        CHECK.due("both in tick 4", y.calls(), 5);
        CHECK.due("the call's hedge", y.call(3, 4), 1);
        CHECK.due("the request's hedge", y.call(4, 5) * 10 + y.call(4, 4), NONE);
    }

    /** 4.: a call whose step is done goes on with the next one, and behind the last one it ends, in the same tick. */
    private static void stepsAtOnce() {
        CHECK.sentence(12, "4. .. a step that is done is followed by the next one at once (the next one fails at once)");
        BrambleMesh x = new BrambleMesh();
        x.instance(0, 0, 1, 9, 9, 0);
        x.instance(1, 0, 1, 9, 9, 0);
        x.step(0, 1, true, NONE);
        x.step(0, 2, true, NONE);
        x.step(0, 1, true, NONE);
        x.policy(ALL, ALL, RETRIES, 0);
        x.request(0, true, 50);
        x.pass(2);
        CHECK.due("FAILED in the tick in which the first one is done", x.call(0, 2), FAILED);
        CHECK.due("two have begun", x.call(0, 6), 2);
        CHECK.due("the request in the same tick", x.requestTicks(0) * 10 + x.requestState(0), 24);
    }

    /** 5. */
    private static void requestsByRisingNumbers() {
        CHECK.sentence(12, "5. Requests that have not ended, by rising numbers, likewise; then repairs that are not made");
        BrambleMesh x = new BrambleMesh();
        x.policy(ALL, ALL, RETRIES, 1);
        x.instance(0, 0, 1, 9, 9, 0);
        x.instance(1, 0, 1, 9, 9, 0);
        x.step(0, 1, true, 2);
        x.policy(0, 1, RETRIES, 0);
        x.instance(2, 0, 1, 3, 0, 0);
        x.fault(1, WRONG, 1);
        x.fault(2, WRONG, 1);
        x.work(2, 2);
        for (int i = 0; i < 2; i++) {
            x.request(2, true, 50);
        }
        x.request(0, false, 50);
        x.pass(2);
        int[] requests = {0, 1, NONE};
        for (int i = 0; i < 3; i++) {
            CHECK.due("retries of requests, then a repair", x.call(4 + i, 5), requests[i]);
            CHECK.due("its service", x.call(4 + i, 0), 2);
        }
        CHECK.due("of repair 0", x.call(6, 7), 0);
    }

    /** 6. */
    private static void queuesBehindTries() {
        CHECK.sentence(12, "6. .. as long as it has a slot and calls in its queue, the first one runs (several slots get free in one tick)");
        for (int free = 1; free <= 4; free++) {
            BrambleMesh x = new BrambleMesh();
            x.policy(ALL, ALL, TIMEOUT, 100);
            x.instance(0, 0, 1, 4, 9, 0);
            for (int i = 0; i < 4; i++) {
                x.work(0, i < free ? 2 : 30);
                x.request(0, true, 90);
            }
            for (int i = 0; i < 6; i++) {
                x.request(0, true, 90);
            }
            x.pass(2);
            for (int i = 0; i < 6; i++) {
                CHECK.due(free + " slots free, queued call " + i, x.call(4 + i, 2), i < free ? RUNNING : QUEUED);
            }
            CHECK.due("all that are there", x.load(0, true), 10 - free);
        }
        CHECK.sentence(12, "6. .. as long as it has a slot and calls in its queue (also if it is DOWN)");
        BrambleMesh y = new BrambleMesh();
        y.instance(0, 0, 1, 1, 1, 0);
        y.request(0, true, 90);
        y.request(0, true, 90);
        y.fault(0, DOWN, 1);
        y.pass(2);
        CHECK.due("what was queued is OK", y.requestState(1), OK);
    }

    private static void offByRisingNumbers() {
        CHECK.sentence(12, "calls of its steps that have not ended end, OFF, by rising numbers, each with calls of its own steps");
        BrambleMesh x = wideMesh();
        x.instance(1, 0, 1, 9, 9, 0);
        x.step(0, 1, true, NONE);
        x.step(1, 2, true, 4);
        x.step(1, 3, true, 5);
        x.policy(0, 1, HEDGE, 1);
        x.work(3, 40);
        x.work(2, 2);
        x.request(0, true, 5);
        x.pass(4);
        CHECK.due("both tries are CALLING", x.call(1, 2) * 10 + x.call(3, 2), 22);
        CHECK.due("of one step", x.call(1, 4) * 10 + x.call(3, 4), 0);
        CHECK.due("the first one with its second step", x.call(1, 6), 2);
        CHECK.due("the hedge with its first one", x.call(3, 6), 1);
        x.pass(1);
        CHECK.due("LATE", x.call(0, 2), LATE);
        CHECK.due("both are OFF", x.call(1, 2) * 10 + x.call(3, 2), 77);
        CHECK.due("5 and 4 of the first try, then 4 of the hedge", undoing(x), 9544);
    }

    private static void statesOfRequests() {
        CHECK.sentence(14, "Returns OK, FAILED, LATE or GOING.");
        BrambleMesh x = wideMesh();
        x.fault(1, WRONG, 1);
        x.fault(2, SLOW, 9);
        for (int service = 0; service <= 3; service++) {
            x.work(service, service == 3 ? 9 : 1);
            x.request(service, true, service == 2 ? 2 : 50);
            CHECK.due("at first", x.requestState(service), GOING);
        }
        x.pass(2);
        int[] due = {OK, FAILED, LATE, GOING};
        for (int i = 0; i < 4; i++) {
            CHECK.due("request " + i, x.requestState(i), due[i]);
        }
        x.pass(50);
        due[3] = OK;
        for (int i = 0; i < 4; i++) {
            CHECK.due("in the end, request " + i, x.requestState(i), due[i]);
        }
        CHECK.sentence(16, "(One that has not ended is kept by the head alone.)");
        BrambleMesh y = wideMesh();
        y.traces(2, 1);
        y.work(0, 20);
        y.request(0, true, 90);
        y.request(0, true, 90);
        y.pass(19);
        CHECK.due("0, by the head", y.isKept(0), true);
        CHECK.due("1, though behind more ticks than the limit", y.isKept(1), false);
        y.pass(1);
        CHECK.due("1, as it has ended", y.isKept(1), true);
    }

    private static void requestsThatAreLateLookAtNothing() {
        CHECK.sentence(12, "LATE when its deadline has come (looked at in 5. ahead of its step: no end is looked at, no retry is made)");
        BrambleMesh x = wideMesh();
        x.policy(CLIENT, 0, RETRIES, 3);
        x.policy(CLIENT, 0, HEDGE, 4);
        x.policy(CLIENT, 0, TIMEOUT, 4);
        x.work(0, 9);
        for (int i = 0; i < 5; i++) {
            x.request(0, true, 4);
        }
        x.pass(4);
        CHECK.due("no retry, no hedge", x.calls(), 5);
        CHECK.due("no end is looked at", x.breaker(CLIENT, 0), BrambleMesh.CLOSED);
        CHECK.due("LATE", x.requestState(4), LATE);
        CHECK.due("no budget is taken", x.budget(CLIENT), 1000);
    }

    private static void lastCalls() {
        CHECK.sentence(13, "An object is used for at most 512 calls after it has been made");
        BrambleMesh x = wideMesh();
        int calls = 8;
        x.step(0, 1, true, 2);
        calls++;
        for (int i = 0; i < 40; i++) {
            x.request(i % 3, i % 2 == 0, 60);
            calls++;
        }
        for (int i = 1; i <= 12; i++) {
            CHECK.due("by 50", x.pass(i == 12 ? 49 : 50), i == 12 ? 599 : 50 * i);
            calls++;
        }
        while (calls < 511) {
            CHECK.due("the tick", x.tick(), 599);
            calls++;
        }
        CHECK.due("the last call", x.pass(1), 600);
    }

    public static void main(String[] args) {
        aheadOfAnyTick();
        breakersFirst();
        lateByRisingNumbers();
        whatRanAheadOfThisTick();
        knownAtOnce();
        callingByFallingNumbers();
        stepsAtOnce();
        requestsByRisingNumbers();
        queuesBehindTries();
        offByRisingNumbers();
        statesOfRequests();
        requestsThatAreLateLookAtNothing();
        lastCalls();
        CHECK.end();
    }
}
