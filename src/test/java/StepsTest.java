/** Promises 20, 26 and 27, and the steps: first tries, retries, hedges, and the budgets that pay for them. */
public final class StepsTest {
    private static final int ALL = BrambleMesh.NONE;
    private static final int NONE = BrambleMesh.NONE;
    private static final int CLIENT = BrambleMesh.CLIENT;
    private static final Check CHECK = new Check();

    /** That many instances of service 0, of equal rank, with room for all. */
    private static BrambleMesh meshOf(int instances) {
        BrambleMesh x = new BrambleMesh();
        for (int i = 0; i < instances; i++) {
            x.instance(0, 0, 1, 9, 9, 0);
        }
        return x;
    }

    private static void promise20NoSuchCaller() {
        BrambleMesh x = meshOf(1);
        CHECK.refused("budget: -1", x, Check.NO_SUCH, () -> x.budget(-1));
        CHECK.refused("budget: 7", x, Check.NO_SUCH, () -> x.budget(7));
        CHECK.refused("extra: -1", x, Check.NO_SUCH, () -> x.extra(-1));
        CHECK.refused("extra: 7", x, Check.NO_SUCH, () -> x.extra(7));
        CHECK.refused("first: -1", x, Check.NO_SUCH, () -> x.first(-1));
        CHECK.refused("first: 7", x, Check.NO_SUCH, () -> x.first(7));
    }

    /** Each of these requests is refused without an instance, and tries as often as it may. */
    private static void promise20ABudgetRunsOut() {
        BrambleMesh x = new BrambleMesh();
        x.policy(ALL, ALL, BrambleMesh.RETRIES, 3);
        int[] budgets = {700, 410, 120, 30, 40, 50, 60, 70, 80, 90, 0, 10};
        int[] extras = {3, 6, 9, 10, 10, 10, 10, 10, 10, 10, 11, 11};
        for (int i = 0; i < budgets.length; i++) {
            x.request(0, true, 5);
            CHECK.due("budget behind request " + i, x.budget(CLIENT), budgets[i]);
            CHECK.due("extra behind request " + i, x.extra(CLIENT), extras[i]);
            CHECK.due("first behind request " + i, x.first(CLIENT), i + 1);
        }
        CHECK.due("no call", x.calls(), 0);
        CHECK.due("of others", x.budget(0) * 10 + x.extra(0) + x.first(0), 10000);
    }

    private static void promise20EachCallerHasItsOwn() {
        BrambleMesh x = meshOf(1);
        x.step(0, 1, true, NONE);
        x.policy(0, 1, BrambleMesh.RETRIES, 2);
        x.request(0, true, 20);
        x.pass(1);
        CHECK.due("the service has paid", x.budget(0), 800);
        CHECK.due("the client has paid a retry", x.budget(CLIENT), 900);
        CHECK.due("first and extra of the service", x.first(0) * 10 + x.extra(0), 12);
        x.pass(1);
        CHECK.due("the second try of the client", x.requestState(0), BrambleMesh.FAILED);
        CHECK.due("a first try adds 10 to the 800", x.budget(0), 610);
    }

    /** What is done for a request of two instances that are WRONG. */
    private static void dueRetries(boolean isSafe, int retries, int calls) {
        BrambleMesh x = meshOf(1);
        x.fault(0, BrambleMesh.WRONG, 1);
        x.policy(CLIENT, 0, BrambleMesh.RETRIES, retries);
        x.request(0, isSafe, 50);
        x.pass(20);
        CHECK.due("calls with " + retries + " retries, safe " + isSafe, x.calls(), calls);
        CHECK.due("the request", x.requestState(0), BrambleMesh.FAILED);
    }

    private static void promise26RetriesOfWhatMayHaveHappened() {
        dueRetries(true, 0, 1);
        dueRetries(true, 1, 2);
        dueRetries(true, 2, 3);
        dueRetries(false, 0, 1);
        dueRetries(false, 3, 1);
    }

    private static void promise26RefusedIsTriedAgainAlsoIfUnsafe() {
        BrambleMesh x = meshOf(3);
        x.policy(ALL, ALL, BrambleMesh.RETRIES, 3);
        x.fault(0, BrambleMesh.DOWN, 1);
        x.fault(1, BrambleMesh.DOWN, 1);
        x.request(0, false, 20);
        CHECK.due("at once", x.calls(), 3);
        CHECK.due("refused", x.call(0, 2) * 10 + x.call(1, 2), 66);
        CHECK.due("till one is out", x.call(2, 2), BrambleMesh.RUNNING);
        CHECK.due("retries", x.extra(CLIENT), 2);
        x.fault(2, BrambleMesh.WRONG, 1);
        x.pass(5);
        CHECK.due("FAILED is not tried again", x.calls(), 3);
        CHECK.due("the request", x.requestState(0), BrambleMesh.FAILED);
    }

    private static void promise26ThereIsNoRetryOfALostRefusal() {
        BrambleMesh x = meshOf(2);
        x.fault(0, BrambleMesh.DOWN, 1);
        x.fault(0, BrambleMesh.LOST, 1);
        x.policy(ALL, ALL, BrambleMesh.TIMEOUT, 4);
        x.request(0, false, 20);
        x.request(0, true, 20);
        CHECK.due("refused, but that is not known", x.call(0, 2), BrambleMesh.REFUSED);
        CHECK.due("no retry yet", x.extra(CLIENT), 0);
        x.pass(3);
        CHECK.due("nor ahead of the deadline", x.extra(CLIENT), 0);
        x.fault(0, BrambleMesh.LOST, 0);
        x.pass(1);
        CHECK.due("LATE is not tried again, if it is not safe", x.requestState(0), BrambleMesh.FAILED);
        CHECK.due("if it is safe, it was elsewhere or is", x.callsOf(0), 1);
    }

    private static void promise26ASafeLostCallIsTriedAgainAtItsDeadline() {
        BrambleMesh x = meshOf(2);
        x.fault(0, BrambleMesh.LOST, 1);
        x.policy(ALL, ALL, BrambleMesh.TIMEOUT, 4);
        x.request(0, true, 20);
        x.pass(3);
        CHECK.due("OK, but not known", x.call(0, 2), BrambleMesh.OK);
        CHECK.due("no retry yet", x.calls(), 1);
        x.pass(1);
        CHECK.due("a retry at the deadline", x.calls(), 2);
        CHECK.due("at the other one", x.call(1, 1), 1);
        CHECK.due("with a deadline of its own", x.call(1, 3), 8);
        CHECK.due("the state stays", x.call(0, 2), BrambleMesh.OK);
        x.pass(1);
        CHECK.due("the request", x.requestState(0), BrambleMesh.OK);
    }

    private static void promise26LostAsItEnds() {
        BrambleMesh x = meshOf(1);
        x.policy(ALL, ALL, BrambleMesh.RETRIES, 0);
        x.work(0, 2);
        x.fault(0, BrambleMesh.LOST, 1);
        x.request(0, true, 9);
        x.fault(0, BrambleMesh.LOST, 0);
        x.pass(2);
        CHECK.due("not LOST as it ends", x.requestState(0), BrambleMesh.OK);
        x.request(0, true, 9);
        x.fault(0, BrambleMesh.LOST, 1);
        x.pass(2);
        x.fault(0, BrambleMesh.LOST, 0);
        x.pass(6);
        CHECK.due("LOST as it ended", x.requestState(1), BrambleMesh.GOING);
        x.pass(1);
        CHECK.due("LATE", x.requestState(1), BrambleMesh.LATE);
        x.work(0, 9);
        x.policy(ALL, ALL, BrambleMesh.TIMEOUT, 3);
        x.fault(0, BrambleMesh.LOST, 1);
        x.request(0, true, 9);
        x.pass(3);
        CHECK.due("LATE is known also if it is LOST", x.requestState(2), BrambleMesh.FAILED);
    }

    private static void promise26Hedge() {
        BrambleMesh x = meshOf(2);
        x.policy(CLIENT, 0, BrambleMesh.HEDGE, 3);
        x.policy(CLIENT, 0, BrambleMesh.RETRIES, 0);
        x.work(0, 9);
        x.request(0, true, 40);
        x.request(0, false, 40);
        x.pass(2);
        CHECK.due("not ahead of 3 ticks", x.calls(), 2);
        x.pass(1);
        CHECK.due("one hedge, of what is safe", x.calls(), 3);
        CHECK.due("for the first one", x.call(2, 5), 0);
        CHECK.due("at the other instance", x.call(2, 1), 1);
        CHECK.due("it takes 100", x.budget(CLIENT), 900);
        CHECK.due("it counts as extra", x.extra(CLIENT), 1);
        x.pass(5);
        CHECK.due("no other one", x.calls(), 3);
        x.pass(1);
        CHECK.due("the first try is done", x.call(0, 2), BrambleMesh.OK);
        CHECK.due("the hedge is OFF", x.call(2, 2), BrambleMesh.OFF);
        CHECK.due("its slot is free", x.load(1, true), 0);
        CHECK.due("the request", x.requestState(0), BrambleMesh.OK);
    }

    private static void promise26AHedgeThatEndsFirst() {
        BrambleMesh x = meshOf(2);
        x.policy(CLIENT, 0, BrambleMesh.HEDGE, 1);
        x.fault(0, BrambleMesh.SLOW, 9);
        x.request(0, true, 40);
        x.pass(2);
        CHECK.due("the first try is OFF", x.call(0, 2), BrambleMesh.OFF);
        CHECK.due("the hedge is OK", x.call(1, 2), BrambleMesh.OK);
        CHECK.due("the request", x.requestTicks(0), 2);
    }

    /** A hedge that fails leaves the first try alone; the retry comes behind both, as a hedge is none. */
    private static void promise26AHedgeIsNoRetry() {
        BrambleMesh x = meshOf(3);
        x.policy(CLIENT, 0, BrambleMesh.HEDGE, 1);
        x.fault(0, BrambleMesh.SLOW, 4);
        x.fault(0, BrambleMesh.WRONG, 1);
        x.fault(1, BrambleMesh.WRONG, 1);
        x.request(0, true, 40);
        x.pass(4);
        CHECK.due("the hedge has failed", x.call(1, 2), BrambleMesh.FAILED);
        CHECK.due("the first try goes on", x.call(0, 2), BrambleMesh.RUNNING);
        CHECK.due("no other try beside it", x.calls(), 2);
        x.pass(1);
        CHECK.due("a retry behind both", x.calls(), 3);
        x.pass(1);
        CHECK.due("the request", x.requestState(0), BrambleMesh.OK);
    }

    /** The other try of a step that is done goes OFF also ahead of the next step. */
    private static void promise26OffAheadOfTheNextStep() {
        BrambleMesh x = meshOf(1);
        x.instance(1, 0, 1, 9, 9, 0);
        x.instance(1, 0, 1, 9, 9, 0);
        x.step(0, 1, true, NONE);
        x.step(0, 1, true, NONE);
        x.policy(0, 1, BrambleMesh.HEDGE, 2);
        x.work(1, 5);
        x.request(0, true, 40);
        x.pass(3);
        CHECK.due("a hedge", x.call(2, 2), BrambleMesh.RUNNING);
        x.pass(3);
        CHECK.due("the next step", x.call(0, 6), 2);
        CHECK.due("done", x.call(1, 2), BrambleMesh.OK);
        CHECK.due("not needed any more", x.call(2, 2), BrambleMesh.OFF);
    }

    /** A hedge that is refused is looked at as it is made, though the first try is out. */
    private static void promise26AHedgeThatIsRefused() {
        BrambleMesh x = meshOf(1);
        x.policy(CLIENT, 0, BrambleMesh.HEDGE, 1);
        x.fault(0, BrambleMesh.SLOW, 9);
        for (int i = 0; i < 3; i++) {
            x.request(0, true, 40);
        }
        x.fault(0, BrambleMesh.DOWN, 1);
        x.pass(1);
        CHECK.due("three hedges", x.calls(), 6);
        CHECK.due("refused", x.call(3, 2) * 100 + x.call(4, 2) * 10 + x.call(5, 2), 666);
        CHECK.due("looked at at once", x.breaker(CLIENT, 0), BrambleMesh.OPEN);
        CHECK.due("the first tries go on", x.requestState(0), BrambleMesh.GOING);
        x.pass(9);
        CHECK.due("and are done", x.requestState(0), BrambleMesh.OK);
    }

    private static void promise26NoHedgeBehindARetry() {
        BrambleMesh x = meshOf(3);
        x.policy(CLIENT, 0, BrambleMesh.HEDGE, 2);
        x.fault(0, BrambleMesh.WRONG, 1);
        x.fault(1, BrambleMesh.SLOW, 9);
        x.request(0, true, 40);
        x.pass(8);
        CHECK.due("a retry alone", x.calls(), 2);
        x.policy(CLIENT, 0, BrambleMesh.HEDGE, 0);
        x.request(0, true, 40);
        x.pass(3);
        CHECK.due("no hedge with 0", x.callsOf(1), 2);
    }

    private static void promise26AHedgeWithoutMoney() {
        BrambleMesh x = meshOf(2);
        x.policy(ALL, ALL, BrambleMesh.RETRIES, 3);
        x.share(CLIENT, 0);
        for (int i = 0; i < 3; i++) {
            x.request(5, true, 5);
        }
        x.policy(ALL, ALL, BrambleMesh.RETRIES, 1);
        x.policy(CLIENT, 0, BrambleMesh.HEDGE, 2);
        x.share(CLIENT, 99);
        x.work(0, 15);
        x.request(0, true, 40);
        x.request(5, true, 5);
        CHECK.due("99 behind a retry", x.budget(CLIENT), 100 + 99 + 99 - 100);
        x.request(5, true, 5);
        x.share(CLIENT, 0);
        x.request(5, true, 5);
        CHECK.due("97 are left", x.budget(CLIENT), 97);
        int calls = x.calls();
        x.pass(5);
        CHECK.due("too little for a hedge", x.calls(), calls);
        x.share(CLIENT, 3);
        x.policy(CLIENT, 5, BrambleMesh.RETRIES, 0);
        x.request(5, true, 5);
        CHECK.due("100", x.budget(CLIENT), 100);
        x.pass(1);
        CHECK.due("enough for one, later", x.calls(), calls + 1);
        CHECK.due("0", x.budget(CLIENT), 0);
    }

    /** Ends are looked at in the order of tries: behind an OK no further one is. */
    private static void promise26EndsInTheOrderOfTries() {
        BrambleMesh x = meshOf(2);
        x.policy(CLIENT, 0, BrambleMesh.HEDGE, 1);
        x.policy(CLIENT, 0, BrambleMesh.RETRIES, 0);
        x.fault(0, BrambleMesh.SLOW, 2);
        x.fault(1, BrambleMesh.SLOW, 1);
        x.fault(1, BrambleMesh.WRONG, 1);
        x.eyes(1);
        for (int i = 0; i < 4; i++) {
            x.request(0, true, 40);
            x.pass(3);
            CHECK.due("both end in one tick", x.call(2 * i, 2) * 10 + x.call(2 * i + 1, 2), 34);
            CHECK.due("OK counts", x.requestState(i), BrambleMesh.OK);
            CHECK.due("the end behind it is not looked at", x.breaker(CLIENT, 1), BrambleMesh.CLOSED);
            x.pass(2);
        }
    }

    private static void promise27FirstTriesOfSteps() {
        BrambleMesh x = meshOf(1);
        x.instance(1, 0, 1, 9, 9, 0);
        x.instance(2, 0, 1, 9, 9, 0);
        x.step(0, 1, false, 2);
        x.step(0, 2, false, NONE);
        x.fault(2, BrambleMesh.WRONG, 1);
        x.request(0, false, 40);
        x.pass(3);
        CHECK.due("a repair has begun", x.repairs(false), 1);
        x.fault(2, BrambleMesh.WRONG, 0);
        x.pass(3);
        CHECK.due("it is made", x.repairs(true), 1);
        CHECK.due("first tries of the service", x.first(0), 2);
        CHECK.due("of the client", x.first(CLIENT), 1);
        CHECK.due("repairs are no extra ones", x.extra(0), 0);
        CHECK.due("and neither add nor take", x.budget(0), 1000);
    }

    private static void promise27NoCallsAbove400() {
        BrambleMesh x = new BrambleMesh();
        x.policy(ALL, ALL, BrambleMesh.TIMEOUT, 100);
        for (int service = 0; service <= 2; service++) {
            x.instance(service, 0, 9, 9, 9, 0);
        }
        for (int i = 0; i < 4; i++) {
            x.step(0, 1, true, NONE);
            x.step(1, 2, true, NONE);
        }
        for (int i = 0; i < 19; i++) {
            x.request(0, true, 200);
            x.pass(24);
            CHECK.due("21 calls for each", x.calls(), 21 * (i + 1));
        }
        x.request(2, true, 20);
        CHECK.due("the last one", x.calls(), 400);
        int number = x.request(2, true, 20);
        CHECK.due("a try is refused", x.requestState(number), BrambleMesh.FAILED);
        CHECK.due("also the retry", x.extra(CLIENT), 1);
        CHECK.due("without a call", x.callsOf(number), 0);
        x.request(2, true, 20);
        CHECK.due("no breaker counts that", x.breaker(CLIENT, 2), BrambleMesh.CLOSED);
        x.pass(50);
        CHECK.due("still 400", x.calls(), 400);
    }

    public static void main(String[] args) {
        promise20NoSuchCaller();
        promise20ABudgetRunsOut();
        promise20EachCallerHasItsOwn();
        promise26RetriesOfWhatMayHaveHappened();
        promise26RefusedIsTriedAgainAlsoIfUnsafe();
        promise26ThereIsNoRetryOfALostRefusal();
        promise26ASafeLostCallIsTriedAgainAtItsDeadline();
        promise26LostAsItEnds();
        promise26Hedge();
        promise26AHedgeThatEndsFirst();
        promise26AHedgeIsNoRetry();
        promise26OffAheadOfTheNextStep();
        promise26AHedgeThatIsRefused();
        promise26NoHedgeBehindARetry();
        promise26AHedgeWithoutMoney();
        promise26EndsInTheOrderOfTries();
        promise27FirstTriesOfSteps();
        promise27NoCallsAbove400();
        CHECK.end();
    }
}
