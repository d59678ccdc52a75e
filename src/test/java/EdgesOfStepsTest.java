/** Steps at their edges: tries without a call, ends that are looked at once each and in order, retries, hedges, what is counted of them. */
public final class EdgesOfStepsTest {
    private static final int ALL = BrambleMesh.NONE;
    private static final int NONE = BrambleMesh.NONE;
    private static final int CLIENT = BrambleMesh.CLIENT;
    private static final int SLOW = BrambleMesh.SLOW, WRONG = BrambleMesh.WRONG, LOST = BrambleMesh.LOST, DOWN = BrambleMesh.DOWN;
    private static final int TIMEOUT = BrambleMesh.TIMEOUT, RETRIES = BrambleMesh.RETRIES, HEDGE = BrambleMesh.HEDGE;
    private static final int RUNNING = BrambleMesh.RUNNING, QUEUED = BrambleMesh.QUEUED, OK = BrambleMesh.OK;
    private static final int FAILED = BrambleMesh.FAILED, LATE = BrambleMesh.LATE, REFUSED = BrambleMesh.REFUSED;
    private static final int OFF = BrambleMesh.OFF, GOING = BrambleMesh.GOING;
    private static final int CLOSED = BrambleMesh.CLOSED, OPEN = BrambleMesh.OPEN;
    private static final Check CHECK = new Check();

    /** That many instances of service 0, of equal rank, with room for all. */
    private static BrambleMesh meshOf(int instances) {
        BrambleMesh x = new BrambleMesh();
        for (int i = 0; i < instances; i++) {
            x.instance(0, 0, 1, 9, 9, 0);
        }
        return x;
    }

    // ---- tries without a call

    private static void dueRefusedWithoutACall(String what, BrambleMesh x) {
        int calls = x.calls();
        int first = x.first(CLIENT);
        int extra = x.extra(CLIENT);
        int number = x.request(0, false, 20);
        CHECK.due(what + ": no call", x.calls(), calls);
        CHECK.due(what + ": FAILED at once", x.requestState(number), FAILED);
        CHECK.due(what + ": a first try", x.first(CLIENT), first + 1);
        CHECK.due(what + ": a retry, as it is REFUSED", x.extra(CLIENT), extra + 1);
    }

    private static void nothingCanBeChosen() {
        CHECK.sentence(11, "without one that can be chosen .. it is REFUSED, and known as that, without a call");
        dueRefusedWithoutACall("no instance at all", new BrambleMesh());
        BrambleMesh x = new BrambleMesh();
        x.instance(1, 0, 1, 9, 9, 0);
        dueRefusedWithoutACall("of another service alone", x);
        BrambleMesh y = meshOf(1);
        y.policy(ALL, ALL, RETRIES, 2);
        y.fault(0, DOWN, 1);
        y.request(0, true, 20);
        y.policy(ALL, ALL, RETRIES, 1);
        CHECK.due("OPEN", y.breaker(CLIENT, 0), OPEN);
        dueRefusedWithoutACall("OPEN", y);
        CHECK.due("no breaker counts that", y.breaker(CLIENT, 0), OPEN);
        y.fault(0, DOWN, 0);
        y.pass(10);
        y.work(0, 9);
        y.request(0, true, 20);
        CHECK.due("HALF, a try is out", y.calls(), 4);
        dueRefusedWithoutACall("HALF, with a try that is out", y);
        y.eyes(1);
        dueRefusedWithoutACall("HALF does not shun, but still", y);
    }

    // ---- ends that are looked at

    private static void onceEach() {
        CHECK.sentence(21, "Ends that are known are looked at once each");
        BrambleMesh x = meshOf(2);
        x.policy(CLIENT, 0, HEDGE, 1);
        x.fault(0, SLOW, 1);
        x.fault(0, WRONG, 1);
        x.fault(1, SLOW, 15);
        x.request(0, true, 90);
        for (int tick = 1; tick <= 15; tick++) {
            x.pass(1);
            CHECK.due("one FAILED end, in tick " + tick, x.breaker(CLIENT, 0), CLOSED);
        }
        CHECK.due("FAILED", x.call(0, 2), FAILED);
        CHECK.due("the hedge is out", x.call(1, 2), RUNNING);
        CHECK.due("no other try", x.calls(), 2);
    }

    /** Two in a row, then one try whose reply is lost and, beside it, one that is OK in the tick in which that is known. */
    private static void inTheOrderOfTries() {
        CHECK.sentence(21, "Ends that are known are looked at .. in the order of tries");
        BrambleMesh x = meshOf(1);
        x.policy(ALL, ALL, RETRIES, 1);
        x.fault(0, DOWN, 1);
        x.request(0, true, 20);
        CHECK.due("two in a row", x.breaker(CLIENT, 0), CLOSED);
        x.fault(0, DOWN, 0);
        x.policy(CLIENT, 0, HEDGE, 1);
        x.policy(CLIENT, 0, TIMEOUT, 5);
        x.work(0, 2);
        x.fault(0, LOST, 1);
        x.request(0, true, 20);
        x.work(0, 4);
        x.pass(2);
        CHECK.due("a hedge", x.calls(), 4);
        x.fault(0, LOST, 0);
        x.pass(2);
        CHECK.due("nothing is known", x.requestState(1), GOING);
        x.pass(1);
        CHECK.due("OK, but lost, and OK", x.call(2, 2) * 10 + x.call(3, 2), 33);
        CHECK.due("done", x.requestState(1), OK);
        CHECK.due("LATE is looked at first, the third in a row", x.breaker(CLIENT, 0), OPEN);
        CHECK.sentence(21, "If one is OK, the step is done, no further one is looked at");
        BrambleMesh y = meshOf(2);
        y.policy(CLIENT, 0, HEDGE, 1);
        y.eyes(1);
        y.fault(0, SLOW, 2);
        y.fault(1, SLOW, 1);
        y.fault(1, WRONG, 1);
        for (int i = 0; i < 5; i++) {
            y.request(0, true, 20);
            y.pass(3);
            CHECK.due("OK, and behind it FAILED", y.call(2 * i, 2) * 10 + y.call(2 * i + 1, 2), 34);
            y.pass(2);
        }
        CHECK.due("five that nobody has looked at", y.breaker(CLIENT, 1), CLOSED);
    }

    private static void refusedAsItIsMade() {
        CHECK.sentence(21, "that of a try that is REFUSED at once as it is made");
        BrambleMesh x = meshOf(1);
        x.policy(ALL, ALL, RETRIES, 2);
        x.fault(0, DOWN, 1);
        x.request(0, true, 20);
        CHECK.due("first try and retries, ahead of any tick", x.breaker(CLIENT, 0), OPEN);
        BrambleMesh y = meshOf(1);
        y.policy(ALL, ALL, RETRIES, 2);
        y.instance(1, 0, 1, 9, 9, 0);
        y.step(0, 1, true, NONE);
        y.fault(1, DOWN, 1);
        y.request(0, true, 20);
        y.pass(1);
        CHECK.due("of a step of a call, in the tick in which it begins", y.breaker(0, 1), OPEN);
        BrambleMesh z = meshOf(1);
        z.policy(CLIENT, 0, HEDGE, 2);
        z.work(0, 9);
        for (int i = 0; i < 3; i++) {
            z.request(0, true, 40);
        }
        z.fault(0, DOWN, 1);
        z.pass(2);
        CHECK.due("of hedges, though the first tries are out", z.breaker(CLIENT, 0), OPEN);
        CHECK.due("which go on", z.requestState(0), GOING);
    }

    private static void otherTriesAreOff() {
        CHECK.sentence(26, "If one is OK, the step is done .. and its other tries that have not ended end, OFF.");
        BrambleMesh x = meshOf(0);
        x.instance(0, 0, 1, 1, 1, 0);
        x.instance(0, 1, 1, 9, 9, 0);
        x.policy(CLIENT, 0, HEDGE, 2);
        x.work(0, 9);
        x.request(0, false, 40);
        x.work(0, 1);
        x.request(0, true, 40);
        CHECK.due("queued behind the other one", x.call(1, 2), QUEUED);
        x.pass(3);
        CHECK.due("the hedge is OK", x.call(2, 2), OK);
        CHECK.due("OFF, from the queue", x.call(1, 2), OFF);
        CHECK.due("its place is free", x.load(0, true), 1);
        CHECK.due("what is not of the step goes on", x.call(0, 2), RUNNING);
        CHECK.sentence(21, "(OFF is never known.)");
        BrambleMesh y = meshOf(2);
        y.policy(CLIENT, 0, HEDGE, 1);
        y.policy(CLIENT, 0, TIMEOUT, 9);
        y.fault(0, SLOW, 40);
        for (int i = 0; i < 4; i++) {
            y.request(0, true, 60);
            y.pass(10);
            CHECK.due("the hedge is OK", y.requestState(i), OK);
            CHECK.due("the first try is OFF", y.call(2 * i, 2), OFF);
        }
        CHECK.due("no breaker counts that", y.breaker(CLIENT, 0), CLOSED);
    }

    // ---- retries

    /** Calls that a request makes where each try ends so, by a fault, with so many retries. */
    private static int triesWith(int fault, boolean isSafe, int retries) {
        BrambleMesh x = meshOf(5);
        x.policy(ALL, 0, RETRIES, retries);
        x.policy(ALL, 0, TIMEOUT, 4);
        for (int i = 0; i < 5; i++) {
            x.fault(i, fault, fault == SLOW ? 50 : 1);
        }
        x.request(0, isSafe, 90);
        x.pass(30);
        CHECK.due("FAILED", x.requestState(0), FAILED);
        CHECK.due("retries", x.extra(CLIENT), x.calls() - 1);
        CHECK.due("the budget", x.budget(CLIENT), 1000 - 100 * x.extra(CLIENT));
        return x.calls();
    }

    private static void retries() {
        CHECK.sentence(26, "there is a retry, if fewer retries than those of the policy have been made");
        for (int retries = 0; retries <= 3; retries++) {
            CHECK.due("FAILED, " + retries, triesWith(WRONG, true, retries), 1 + retries);
            CHECK.due("LATE, " + retries, triesWith(SLOW, true, retries), 1 + retries);
            CHECK.due("LATE, as it is LOST, " + retries, triesWith(LOST, true, retries), 1 + retries);
            CHECK.due("REFUSED, " + retries, triesWith(DOWN, true, retries), 1 + retries);
        }
        CHECK.sentence(26, "there is a retry, if .. the end that was looked at last was REFUSED, or the step is safe");
        for (int retries = 0; retries <= 3; retries++) {
            CHECK.due("not safe, FAILED, " + retries, triesWith(WRONG, false, retries), 1);
            CHECK.due("not safe, LATE, " + retries, triesWith(SLOW, false, retries), 1);
            CHECK.due("not safe, LATE, as it is LOST, " + retries, triesWith(LOST, false, retries), 1);
            CHECK.due("not safe, REFUSED, " + retries, triesWith(DOWN, false, retries), 1 + retries);
        }
    }

    private static void theEndThatWasLookedAtLast() {
        CHECK.sentence(26, "the end that was looked at last was REFUSED (REFUSED, then FAILED, of a step that is not safe)");
        BrambleMesh x = meshOf(3);
        x.policy(ALL, ALL, RETRIES, 3);
        x.fault(0, DOWN, 1);
        x.fault(1, WRONG, 1);
        x.request(0, false, 20);
        CHECK.due("a retry behind REFUSED", x.calls(), 2);
        x.pass(3);
        CHECK.due("none behind FAILED", x.calls(), 2);
        CHECK.due("the step fails", x.requestState(0), FAILED);
        CHECK.due("as the end is known", x.requestTicks(0), 1);
    }

    private static void policiesOfNow() {
        CHECK.sentence(26, "if fewer retries than those of the policy have been made (of the policy as it is then)");
        BrambleMesh x = meshOf(4);
        for (int i = 0; i < 4; i++) {
            x.fault(i, WRONG, 1);
        }
        x.policy(ALL, ALL, RETRIES, 3);
        x.request(0, true, 40);
        x.pass(2);
        CHECK.due("two retries", x.extra(CLIENT), 2);
        x.policy(ALL, ALL, RETRIES, 2);
        x.pass(1);
        CHECK.due("no more than 2 now", x.extra(CLIENT), 2);
        CHECK.due("FAILED", x.requestState(0), FAILED);
        BrambleMesh y = meshOf(2);
        y.policy(ALL, ALL, RETRIES, 0);
        y.fault(0, WRONG, 1);
        y.request(0, true, 40);
        y.policy(CLIENT, 0, RETRIES, 1);
        y.pass(1);
        CHECK.due("one more", y.calls(), 2);
        y.pass(1);
        CHECK.due("OK", y.requestState(0), OK);
    }

    private static void atOnce() {
        CHECK.sentence(26, "All this goes on at once, till some try is out, or the step is over.");
        BrambleMesh x = meshOf(4);
        x.policy(ALL, ALL, RETRIES, 3);
        for (int i = 0; i < 3; i++) {
            x.fault(i, DOWN, 1);
        }
        x.request(0, false, 20);
        CHECK.due("three REFUSED and one that is out", x.calls(), 4);
        CHECK.due("it runs", x.call(3, 2), RUNNING);
        x.fault(3, DOWN, 1);
        x.request(0, false, 20);
        CHECK.due("the step is over", x.requestState(1), FAILED);
        CHECK.due("behind four tries", x.callsOf(1), 4);
        BrambleMesh y = meshOf(3);
        y.policy(ALL, ALL, RETRIES, 3);
        y.fault(0, WRONG, 1);
        y.fault(1, DOWN, 1);
        y.request(0, true, 20);
        y.pass(1);
        CHECK.due("FAILED, then REFUSED, then one that is out, in one tick", y.calls(), 3);
        CHECK.due("it runs", y.call(2, 2), RUNNING);
        CHECK.sentence(26, "no try of the step is out, whose end is not known: there is a retry (one that is out keeps it back)");
        BrambleMesh z = meshOf(3);
        z.policy(CLIENT, 0, HEDGE, 1);
        z.policy(CLIENT, 0, RETRIES, 3);
        z.fault(0, SLOW, 2);
        z.fault(0, WRONG, 1);
        z.fault(1, SLOW, 5);
        z.fault(1, WRONG, 1);
        z.request(0, true, 40);
        z.pass(3);
        CHECK.due("the first try has FAILED", z.call(0, 2), FAILED);
        CHECK.due("the hedge is out: no retry", z.calls(), 2);
        z.pass(3);
        CHECK.due("nor later", z.calls(), 2);
        z.pass(1);
        CHECK.due("a retry as the hedge has FAILED", z.calls(), 3);
    }

    private static void aHedgeIsNoRetry() {
        CHECK.sentence(26, "fewer retries than those of the policy have been made (a hedge is none)");
        for (int retries = 0; retries <= 3; retries++) {
            BrambleMesh x = meshOf(5);
            x.policy(CLIENT, 0, HEDGE, 1);
            x.policy(CLIENT, 0, RETRIES, retries);
            for (int i = 0; i < 5; i++) {
                x.fault(i, WRONG, 1);
            }
            x.work(0, 3);
            x.request(0, true, 90);
            x.pass(40);
            CHECK.due("first try, hedge, and " + retries, x.calls(), 2 + retries);
            CHECK.due("extra", x.extra(CLIENT), 1 + retries);
            CHECK.due("FAILED", x.requestState(0), FAILED);
        }
    }

    // ---- hedges

    private static void hedges() {
        CHECK.sentence(26, "A hedge: if .. as many ticks or more have gone since its first try");
        for (int hedge = 1; hedge <= 50; hedge += 7) {
            BrambleMesh x = meshOf(2);
            x.pass(3);
            x.policy(ALL, ALL, TIMEOUT, 100);
            x.policy(CLIENT, 0, HEDGE, hedge);
            x.fault(0, SLOW, 50);
            x.work(0, 50);
            x.request(0, true, 200);
            if (hedge > 1) {
                x.pass(hedge - 1);
            }
            CHECK.due("not a tick ahead of " + hedge, x.calls(), 1);
            x.pass(1);
            CHECK.due("behind " + hedge, x.calls(), 2);
            CHECK.due("its deadline, of its own", x.call(1, 3), 3 + hedge + 100);
        }
        BrambleMesh y = meshOf(2);
        y.work(0, 15);
        y.request(0, true, 40);
        y.pass(9);
        y.policy(CLIENT, 0, HEDGE, 4);
        CHECK.due("no hedge but in a tick", y.calls(), 1);
        y.pass(1);
        CHECK.due("more ticks than told", y.calls(), 2);
        CHECK.sentence(26, "A hedge: .. since its first try (of a step of a call: as that begins)");
        BrambleMesh z = meshOf(1);
        z.instance(1, 0, 1, 9, 9, 0);
        z.step(0, 1, true, NONE);
        z.policy(0, 1, HEDGE, 3);
        z.work(0, 5);
        z.work(1, 9);
        z.request(0, true, 40);
        z.pass(7);
        CHECK.due("its step began in tick 5", z.calls(), 2);
        z.pass(1);
        CHECK.due("3 behind that", z.calls(), 3);
        CHECK.due("of the same call", z.call(2, 4), 0);
        CHECK.due("paid by its service", z.budget(0), 900);
    }

    private static void noHedge() {
        CHECK.sentence(26, "A hedge: if the step is safe");
        BrambleMesh x = meshOf(2);
        x.policy(CLIENT, 0, HEDGE, 1);
        x.work(0, 9);
        x.request(0, false, 40);
        x.pass(8);
        CHECK.due("not safe", x.calls(), 1);
        CHECK.sentence(26, "A hedge: if .. the policy has a hedge (0: none)");
        BrambleMesh y = meshOf(2);
        y.policy(CLIENT, 0, HEDGE, 0);
        y.work(0, 9);
        y.request(0, true, 40);
        y.pass(8);
        CHECK.due("none", y.calls(), 1);
        CHECK.sentence(26, "A hedge: if .. there was no other try yet");
        BrambleMesh z = meshOf(3);
        z.policy(CLIENT, 0, HEDGE, 1);
        z.work(0, 9);
        z.request(0, true, 40);
        z.pass(8);
        CHECK.due("one hedge alone", z.calls(), 2);
        BrambleMesh w = meshOf(3);
        w.policy(CLIENT, 0, HEDGE, 2);
        w.fault(0, DOWN, 1);
        w.work(0, 9);
        w.request(0, true, 40);
        CHECK.due("a retry, at once", w.calls(), 2);
        w.pass(8);
        CHECK.due("no hedge behind a retry", w.calls(), 2);
    }

    private static void aHedgeWithoutACall() {
        CHECK.sentence(26, "there is another try beside it (REFUSED without a call, as none can be chosen)");
        BrambleMesh x = meshOf(1);
        x.policy(ALL, ALL, RETRIES, 2);
        x.work(0, 9);
        x.request(0, true, 40);
        x.fault(0, DOWN, 1);
        x.request(0, true, 40);
        CHECK.due("OPEN", x.breaker(CLIENT, 0), OPEN);
        int calls = x.calls();
        x.policy(CLIENT, 0, HEDGE, 2);
        x.pass(2);
        CHECK.due("no call", x.calls(), calls);
        CHECK.due("but a hedge, behind two retries", x.extra(CLIENT), 3);
        CHECK.due("which takes 100", x.budget(CLIENT), 1000 - 300 + 0);
        x.pass(5);
        CHECK.due("no other one", x.extra(CLIENT), 3);
        CHECK.due("the first try goes on", x.requestState(0), GOING);
        x.pass(2);
        CHECK.due("and is OK", x.requestState(0), OK);
    }

    // ---- what is counted

    private static void firstTries() {
        CHECK.sentence(27, "Returns how many first tries a caller has made, those of repairs not counted.");
        BrambleMesh x = new BrambleMesh();
        for (int caller = 0; caller <= 6; caller++) {
            CHECK.due("none at first", x.first(caller), 0);
        }
        for (int service = 0; service <= 2; service++) {
            x.instance(service, 0, 1, 9, 9, 0);
        }
        x.step(0, 1, false, 2);
        x.step(0, 5, false, NONE);
        x.policy(ALL, ALL, RETRIES, 3);
        x.request(0, true, 20);
        x.pass(2);
        CHECK.due("one for each step that has begun, without a call as well", x.first(0), 2);
        CHECK.due("a repair", x.repairs(false), 1);
        CHECK.due("retries of the second", x.extra(0), 3);
        x.pass(1);
        CHECK.due("made", x.repairs(true), 1);
        CHECK.due("not counted with first tries, but the one of the retry", x.first(0), 3);
        CHECK.due("nor with extra ones", x.extra(0), 3);
        CHECK.sentence(20, "Repairs neither add nor take.");
        BrambleMesh y = new BrambleMesh();
        for (int service = 0; service <= 1; service++) {
            y.instance(service, 0, 1, 9, 9, 0);
        }
        y.step(0, 1, false, 2);
        y.step(0, 5, false, NONE);
        y.policy(ALL, ALL, RETRIES, 2);
        y.policy(CLIENT, 0, RETRIES, 0);
        y.share(0, 7);
        y.request(0, true, 20);
        y.pass(2);
        CHECK.due("two retries", y.budget(0), 800);
        y.pass(20);
        CHECK.due("19 tries of a repair later", y.repairs(false) * 10 + y.repairs(true), 10);
        CHECK.due("neither", y.budget(0), 800);
        CHECK.due("first tries", y.first(0), 2);
        CHECK.due("extra ones", y.extra(0), 2);
    }

    private static void extraTries() {
        CHECK.sentence(26, "Returns how many retries and hedges a caller has made.");
        BrambleMesh x = meshOf(3);
        for (int caller = 0; caller <= 6; caller++) {
            CHECK.due("none at first", x.extra(caller), 0);
        }
        x.policy(CLIENT, 0, HEDGE, 2);
        x.work(0, 4);
        x.request(0, true, 40);
        x.pass(4);
        CHECK.due("a hedge", x.extra(CLIENT), 1);
        x.fault(0, DOWN, 1);
        x.pass(1);
        x.request(0, true, 40);
        CHECK.due("a retry", x.extra(CLIENT), 2);
        CHECK.due("of nobody else", x.extra(0), 0);
    }

    public static void main(String[] args) {
        nothingCanBeChosen();
        onceEach();
        inTheOrderOfTries();
        refusedAsItIsMade();
        otherTriesAreOff();
        retries();
        theEndThatWasLookedAtLast();
        policiesOfNow();
        atOnce();
        aHedgeIsNoRetry();
        hedges();
        noHedge();
        aHedgeWithoutACall();
        firstTries();
        extraTries();
        CHECK.end();
    }
}
