/** The order of things within a tick, and how deadlines, slots, queues and OFF work together. */
public final class TicksTest {
    private static final int ALL = BrambleMesh.NONE;
    private static final int NONE = BrambleMesh.NONE;
    private static final int CLIENT = BrambleMesh.CLIENT;
    private static final Check CHECK = new Check();

    private static BrambleMesh wideMesh() {
        BrambleMesh x = new BrambleMesh();
        x.policy(ALL, ALL, BrambleMesh.RETRIES, 0);
        for (int service = 0; service <= 3; service++) {
            x.instance(service, 0, 1, 9, 9, 0);
        }
        return x;
    }

    /** 2 ahead of 3: a call whose work is done as its deadline comes is LATE. */
    private static void promise12LateAheadOfDone() {
        BrambleMesh x = wideMesh();
        x.work(0, 5);
        x.request(0, true, 5);
        x.request(0, true, 6);
        x.pass(5);
        CHECK.due("LATE", x.call(0, 2), BrambleMesh.LATE);
        CHECK.due("OK", x.call(1, 2), BrambleMesh.OK);
    }

    /** 2 ahead of 4: a call that is LATE by its own timeout is tried again in the same tick. */
    private static void promise12TheTimeoutOfATry() {
        BrambleMesh x = wideMesh();
        x.policy(CLIENT, 0, BrambleMesh.TIMEOUT, 3);
        x.policy(CLIENT, 0, BrambleMesh.RETRIES, 3);
        x.work(0, 9);
        x.request(0, true, 8);
        x.pass(8);
        CHECK.due("three tries", x.calls(), 3);
        CHECK.due("deadlines", x.call(0, 3) * 100 + x.call(1, 3) * 10 + x.call(2, 3), 368);
        CHECK.due("the last one with its request", x.requestState(0), BrambleMesh.LATE);
    }

    /** Deadlines shrink on the way. */
    private static void promise12DeadlinesShrink() {
        BrambleMesh x = wideMesh();
        x.step(0, 1, true, NONE);
        x.step(1, 2, true, NONE);
        x.policy(CLIENT, 0, BrambleMesh.TIMEOUT, 40);
        x.policy(0, 1, BrambleMesh.TIMEOUT, 12);
        x.policy(1, 2, BrambleMesh.TIMEOUT, 50);
        x.request(0, true, 30);
        x.pass(2);
        CHECK.due("of the request", x.call(0, 3), 30);
        CHECK.due("of the policy", x.call(1, 3), 13);
        CHECK.due("of the call", x.call(2, 3), 13);
    }

    /** 3 ahead of 4, and 4 by falling numbers: an end goes all the way up in one tick. */
    private static void promise12EndsGoUpInOneTick() {
        BrambleMesh x = wideMesh();
        x.step(0, 1, true, NONE);
        x.step(1, 2, true, NONE);
        x.step(2, 3, true, NONE);
        x.request(0, true, 30);
        x.pass(3);
        CHECK.due("the last call runs", x.call(3, 2), BrambleMesh.RUNNING);
        CHECK.due("the others call", x.call(0, 2) * 100 + x.call(1, 2) * 10 + x.call(2, 2), 222);
        x.pass(1);
        CHECK.due("all are OK", x.call(0, 2) * 1000 + x.call(1, 2) * 100 + x.call(2, 2) * 10 + x.call(3, 2), 3333);
        CHECK.due("the request as well", x.requestTicks(0), 4);
    }

    /** A step that is done is followed by the next one at once, also by several that are refused at once. */
    private static void promise12TheNextStepAtOnce() {
        BrambleMesh x = wideMesh();
        x.step(0, 1, true, NONE);
        x.step(0, 5, true, NONE);
        x.step(0, 2, true, NONE);
        x.request(0, true, 30);
        x.pass(2);
        CHECK.due("the second one fails at once", x.call(0, 2), BrambleMesh.FAILED);
        CHECK.due("two have begun", x.call(0, 6), 2);
        CHECK.due("the request at once", x.requestState(0), BrambleMesh.FAILED);
    }

    /** 4 by falling numbers: the later call takes the slot. */
    private static void promise12CallsByFallingNumbers() {
        BrambleMesh x = new BrambleMesh();
        x.policy(ALL, ALL, BrambleMesh.RETRIES, 0);
        x.instance(0, 0, 1, 9, 9, 0);
        x.instance(1, 0, 1, 1, 0, 0);
        x.step(0, 1, true, NONE);
        x.request(0, true, 30);
        x.request(0, true, 30);
        x.pass(1);
        CHECK.due("the later one runs", x.call(2, 4), 1);
        CHECK.due("the other one is refused", x.requestState(0), BrambleMesh.FAILED);
        x.pass(1);
        CHECK.due("the later one is OK", x.requestState(1), BrambleMesh.OK);
    }

    /** 3: a call without steps ends there, so that its slot is free for those that go on in 4. */
    private static void promise12WithoutStepsItEndsAheadOfSteps() {
        BrambleMesh x = new BrambleMesh();
        x.policy(ALL, ALL, BrambleMesh.RETRIES, 0);
        x.instance(0, 0, 1, 9, 9, 0);
        x.instance(1, 0, 1, 1, 0, 0);
        x.step(0, 1, true, NONE);
        x.request(1, true, 30);
        x.request(0, true, 30);
        x.pass(1);
        CHECK.due("its slot is taken by another call", x.call(2, 2), BrambleMesh.RUNNING);
        CHECK.due("it is OK", x.requestState(0), BrambleMesh.OK);
    }

    /** 5 by rising numbers, behind 4: calls take slots ahead of requests, requests ahead of repairs. */
    private static void promise12CallsThenRequestsThenRepairs() {
        BrambleMesh x = new BrambleMesh();
        x.instance(0, 0, 1, 9, 9, 0);
        x.instance(1, 0, 1, 9, 9, 0);
        x.instance(2, 0, 1, 2, 0, 0);
        x.step(0, 1, false, 2);
        x.step(0, 3, false, NONE);
        x.policy(ALL, ALL, BrambleMesh.RETRIES, 0);
        x.policy(CLIENT, 2, BrambleMesh.RETRIES, 1);
        x.policy(CLIENT, 2, BrambleMesh.TIMEOUT, 2);
        x.work(2, 5);
        x.request(2, true, 30);
        x.request(2, true, 30);
        x.request(0, true, 30);
        x.pass(2);
        CHECK.due("requests try again first", x.call(4, 5) * 10 + x.call(5, 5), 1);
        CHECK.due("then there is a repair", x.call(6, 7), 0);
        CHECK.due("which finds no slot", x.call(6, 2), BrambleMesh.REFUSED);
    }

    /** A slot that is free in 2 is taken in 4 or 5 if nothing is queued; otherwise the queue has it, in 6. */
    private static void promise12SlotsThatAreFree() {
        BrambleMesh x = new BrambleMesh();
        x.instance(0, 0, 1, 1, 1, 0);
        x.policy(CLIENT, 0, BrambleMesh.TIMEOUT, 3);
        x.work(0, 9);
        x.request(0, true, 30);
        x.pass(3);
        CHECK.due("a retry has the slot", x.call(1, 2), BrambleMesh.RUNNING);
        x.request(0, true, 5);
        CHECK.due("one is queued", x.call(2, 2), BrambleMesh.QUEUED);
        x.pass(2);
        CHECK.due("still", x.call(2, 2), BrambleMesh.QUEUED);
        x.pass(1);
        CHECK.due("LATE, both, in one tick", x.call(1, 2) * 10 + x.call(2, 2), 55);
        CHECK.due("three LATE ones open the breaker, no other call", x.calls(), 3);
        BrambleMesh y = new BrambleMesh();
        y.instance(0, 0, 1, 1, 2, 0);
        y.policy(CLIENT, 0, BrambleMesh.TIMEOUT, 3);
        y.work(0, 9);
        y.request(0, true, 30);
        y.policy(CLIENT, 0, BrambleMesh.TIMEOUT, 20);
        y.request(0, true, 30);
        y.pass(3);
        CHECK.due("LATE", y.call(0, 2), BrambleMesh.LATE);
        CHECK.due("the queue has the slot", y.call(1, 2), BrambleMesh.RUNNING);
        CHECK.due("the retry is behind it", y.call(2, 2), BrambleMesh.QUEUED);
    }

    /** 6: what is queued begins in the tick in which a slot gets free, the first one first. */
    private static void promise12TheQueueInOrder() {
        BrambleMesh x = new BrambleMesh();
        x.instance(0, 0, 1, 2, 9, 0);
        x.work(0, 2);
        for (int i = 0; i < 6; i++) {
            x.request(0, true, 30);
        }
        x.pass(2);
        int[] at2 = {3, 3, 1, 1, 0, 0};
        for (int i = 0; i < at2.length; i++) {
            CHECK.due("in tick 2, call " + i, x.call(i, 2), at2[i]);
        }
        x.request(0, true, 30);
        x.pass(2);
        int[] at4 = {3, 3, 3, 3, 1, 1, 0};
        for (int i = 0; i < at4.length; i++) {
            CHECK.due("in tick 4, call " + i, x.call(i, 2), at4[i]);
        }
        x.pass(4);
        for (int i = 0; i < 7; i++) {
            CHECK.due("ticks of request " + i, x.requestTicks(i), i < 6 ? 2 + i / 2 * 2 : 6);
        }
    }

    /** A call that is CALLING keeps its slot. */
    private static void promise12CallingHasASlot() {
        BrambleMesh x = new BrambleMesh();
        x.policy(ALL, ALL, BrambleMesh.RETRIES, 0);
        x.instance(0, 0, 1, 1, 0, 0);
        x.instance(1, 0, 1, 1, 0, 0);
        x.step(0, 1, true, NONE);
        x.work(1, 3);
        x.request(0, true, 30);
        x.pass(2);
        CHECK.due("CALLING", x.call(0, 2), BrambleMesh.CALLING);
        x.request(0, true, 30);
        CHECK.due("no slot", x.requestState(1), BrambleMesh.FAILED);
        x.pass(2);
        x.request(0, true, 30);
        CHECK.due("a slot behind its end", x.requestState(2), BrambleMesh.GOING);
    }

    /** WRONG at the end of its work: no step begins. */
    private static void promise12WrongAheadOfSteps() {
        BrambleMesh x = wideMesh();
        x.step(0, 1, true, NONE);
        x.work(1, 5);
        x.request(0, true, 30);
        x.request(0, true, 30);
        x.fault(0, BrambleMesh.WRONG, 1);
        x.pass(1);
        CHECK.due("FAILED", x.call(0, 2), BrambleMesh.FAILED);
        CHECK.due("no step", x.call(0, 6), 0);
        x.fault(0, BrambleMesh.WRONG, 0);
        x.request(0, true, 30);
        x.pass(1);
        x.fault(0, BrambleMesh.WRONG, 1);
        x.pass(8);
        CHECK.due("WRONG later does not count", x.requestState(2), BrambleMesh.OK);
    }

    /** 1 ahead of 4 and 5: what becomes HALF in a tick can be chosen in it. */
    private static void promise12BreakersFirst() {
        BrambleMesh x = wideMesh();
        x.fault(0, BrambleMesh.DOWN, 1);
        for (int i = 0; i < 3; i++) {
            x.request(0, true, 30);
        }
        x.fault(0, BrambleMesh.DOWN, 0);
        x.instance(0, 0, 1, 1, 0, 0);
        x.policy(CLIENT, 0, BrambleMesh.RETRIES, 1);
        x.fault(4, BrambleMesh.SLOW, 9);
        x.fault(4, BrambleMesh.WRONG, 1);
        x.request(0, true, 30);
        x.pass(10);
        CHECK.due("a retry where it is HALF since this tick", x.call(4, 1), 0);
    }

    /** 7 behind 6: the load is told of what is left in a tick. */
    private static void promise12LoadsLast() {
        BrambleMesh x = new BrambleMesh();
        x.instance(0, 0, 1, 1, 9, 0);
        x.work(0, 5);
        x.request(0, true, 30);
        x.request(0, true, 5);
        x.request(0, true, 30);
        x.pass(5);
        CHECK.due("an end, a LATE one, and one that runs", x.load(0, false), 1);
        x.request(0, true, 30);
        x.pass(4);
        CHECK.due("old", x.load(0, false), 1);
    }

    public static void main(String[] args) {
        promise12LateAheadOfDone();
        promise12TheTimeoutOfATry();
        promise12DeadlinesShrink();
        promise12EndsGoUpInOneTick();
        promise12TheNextStepAtOnce();
        promise12CallsByFallingNumbers();
        promise12WithoutStepsItEndsAheadOfSteps();
        promise12CallsThenRequestsThenRepairs();
        promise12SlotsThatAreFree();
        promise12TheQueueInOrder();
        promise12CallingHasASlot();
        promise12WrongAheadOfSteps();
        promise12BreakersFirst();
        promise12LoadsLast();
        CHECK.end();
    }
}
