/** Promise 25, and the repairs: what calls for one, in which order they are numbered, and how they are tried till they are made. */
public final class RepairsTest {
    private static final int ALL = BrambleMesh.NONE;
    private static final int NONE = BrambleMesh.NONE;
    private static final int CLIENT = BrambleMesh.CLIENT;
    private static final Check CHECK = new Check();

    /** One instance with room for all in each service, and no retries. */
    private static BrambleMesh wideMesh() {
        BrambleMesh x = new BrambleMesh();
        x.policy(ALL, ALL, BrambleMesh.RETRIES, 0);
        for (int service = 0; service <= 5; service++) {
            x.instance(service, 0, 1, 9, 9, 0);
        }
        return x;
    }

    private static void dueRepairs(BrambleMesh x, String what, int all, int made) {
        CHECK.due(what + ": all", x.repairs(false), all);
        CHECK.due(what + ": made", x.repairs(true), made);
    }

    /** The services of the calls that are tries of repairs, in their order, as digits; 9 if there is none. */
    private static int servicesOfRepairs(BrambleMesh x) {
        int digits = 9;
        for (int call = 0; call < x.calls(); call++) {
            if (x.call(call, 7) != NONE) {
                digits = digits * 10 + x.call(call, 0);
            }
        }
        return digits;
    }

    private static void promise25NoneWithoutAnUndo() {
        BrambleMesh x = wideMesh();
        x.step(0, 1, true, NONE);
        x.step(0, 2, true, NONE);
        x.fault(2, BrambleMesh.WRONG, 1);
        x.request(0, true, 20);
        x.pass(5);
        CHECK.due("the request", x.requestState(0), BrambleMesh.FAILED);
        dueRepairs(x, "no undo", 0, 0);
    }

    private static void promise25NoneBehindAnOk() {
        BrambleMesh x = wideMesh();
        x.step(0, 1, true, 5);
        x.request(0, true, 20);
        x.pass(5);
        CHECK.due("the request", x.requestState(0), BrambleMesh.OK);
        dueRepairs(x, "all OK", 0, 0);
    }

    private static void promise25FromTheLatestStepBackwards() {
        BrambleMesh x = wideMesh();
        x.step(0, 1, true, 3);
        x.step(0, 1, true, NONE);
        x.step(0, 1, true, 4);
        x.step(0, 2, true, 5);
        x.fault(2, BrambleMesh.WRONG, 1);
        x.request(0, true, 20);
        x.pass(4);
        dueRepairs(x, "ahead of the failure", 0, 0);
        x.pass(1);
        dueRepairs(x, "by the failure", 3, 0);
        CHECK.due("their order", servicesOfRepairs(x), 9543);
        int first = x.calls() - 3;
        for (int i = 0; i < 3; i++) {
            CHECK.due("repair of the call", x.call(first + i, 7), i);
            CHECK.due("of no call", x.call(first + i, 4), NONE);
            CHECK.due("of no request", x.call(first + i, 5), NONE);
            CHECK.due("tried in the same tick", x.call(first + i, 2), BrambleMesh.RUNNING);
        }
        x.pass(1);
        dueRepairs(x, "a tick later", 3, 3);
        x.pass(20);
        CHECK.due("made once", x.calls(), first + 3);
    }

    /** FAILED and LATE calls have run as well; what was refused or queued to its end has not. */
    private static void promise25OnlyStepsThatHaveRun() {
        BrambleMesh x = wideMesh();
        x.step(0, 1, true, 4);
        x.fault(1, BrambleMesh.DOWN, 1);
        x.request(0, true, 20);
        x.pass(2);
        CHECK.due("refused", x.requestState(0), BrambleMesh.FAILED);
        dueRepairs(x, "refused", 0, 0);
        BrambleMesh y = new BrambleMesh();
        y.policy(ALL, ALL, BrambleMesh.RETRIES, 0);
        y.instance(0, 0, 1, 9, 9, 0);
        y.instance(1, 0, 1, 1, 9, 0);
        y.instance(4, 0, 1, 9, 9, 0);
        y.step(0, 1, true, 4);
        y.work(1, 9);
        y.request(1, true, 30);
        y.request(0, true, 5);
        y.pass(4);
        CHECK.due("queued", y.call(2, 2), BrambleMesh.QUEUED);
        y.pass(1);
        CHECK.due("OFF", y.call(2, 2), BrambleMesh.OFF);
        dueRepairs(y, "queued to its end", 0, 0);
        y.pass(4);
        y.request(0, true, 2);
        y.pass(2);
        CHECK.due("LATE", y.requestState(2), BrambleMesh.LATE);
        dueRepairs(y, "it ran", 1, 0);
    }

    /** A step of which a try was refused and another one has run. */
    private static void promise25ACallOfTheStepHasRun() {
        BrambleMesh x = wideMesh();
        x.instance(1, 0, 1, 9, 9, 0);
        x.step(0, 1, false, 4);
        x.policy(0, 1, BrambleMesh.RETRIES, 1);
        x.fault(1, BrambleMesh.DOWN, 1);
        x.fault(6, BrambleMesh.WRONG, 1);
        x.request(0, true, 20);
        x.pass(2);
        CHECK.due("refused, then FAILED", x.call(1, 2) * 10 + x.call(2, 2), 64);
        dueRepairs(x, "one for the step", 1, 0);
    }

    /** Ends of calls of its steps come ahead of the repairs of a call. */
    private static void promise25RepairsOfCallsOfItsStepsComeFirst() {
        BrambleMesh x = wideMesh();
        x.step(0, 1, true, 3);
        x.step(1, 2, true, 4);
        x.step(2, 3, true, 5);
        x.work(3, 9);
        x.request(0, true, 5);
        x.pass(5);
        CHECK.due("LATE", x.call(0, 2), BrambleMesh.LATE);
        CHECK.due("OFF", x.call(1, 2) * 100 + x.call(2, 2) * 10 + x.call(3, 2), 777);
        CHECK.due("from the inmost outwards", servicesOfRepairs(x), 9543);
        CHECK.due("the caller is the service of the call", x.budget(2), 1000);
        x.pass(1);
        dueRepairs(x, "undone", 3, 2);
        x.pass(8);
        dueRepairs(x, "undone by what works 9 ticks", 3, 3);
    }

    /** Of two tries that go OFF with their call, the lower number's repairs come first. */
    private static void promise25TriesThatGoOffByRisingNumbers() {
        BrambleMesh x = wideMesh();
        x.instance(1, 0, 1, 9, 9, 0);
        x.step(0, 1, true, 3);
        x.step(1, 2, true, 4);
        x.policy(0, 1, BrambleMesh.HEDGE, 2);
        x.work(2, 9);
        x.request(0, true, 6);
        x.pass(6);
        CHECK.due("two tries", x.call(1, 4) * 10 + x.call(3, 4), 0);
        CHECK.due("both OFF", x.call(1, 2) * 10 + x.call(3, 2), 77);
        CHECK.due("4 for each, then 3", servicesOfRepairs(x), 9443);
    }

    /** A hedge that is not needed any more is undone, though the step is done. */
    private static void promise25WhatGoesOffIsUndone() {
        BrambleMesh x = wideMesh();
        x.instance(1, 0, 1, 9, 9, 0);
        x.step(0, 1, true, 3);
        x.step(1, 2, true, 4);
        x.policy(0, 1, BrambleMesh.HEDGE, 1);
        x.work(2, 3);
        x.request(0, true, 20);
        x.pass(5);
        CHECK.due("the first try", x.call(1, 2), BrambleMesh.OK);
        CHECK.due("the hedge", x.call(3, 2), BrambleMesh.OFF);
        CHECK.due("its own call", x.call(4, 2), BrambleMesh.OFF);
        CHECK.due("the call", x.call(0, 2), BrambleMesh.OK);
        CHECK.due("undone", servicesOfRepairs(x), 94);
    }

    private static void promise25ItGoesOnUntilItIsMade() {
        BrambleMesh x = wideMesh();
        x.instance(5, 0, 1, 9, 9, 0);
        x.step(0, 1, true, 5);
        x.fault(1, BrambleMesh.WRONG, 1);
        x.fault(5, BrambleMesh.DOWN, 1);
        x.fault(6, BrambleMesh.WRONG, 1);
        x.request(0, true, 20);
        x.pass(2);
        CHECK.due("one try in a tick", servicesOfRepairs(x), 95);
        CHECK.due("refused", x.call(x.calls() - 1, 2), BrambleMesh.REFUSED);
        x.pass(1);
        CHECK.due("another one, where it was not", x.call(x.calls() - 1, 1), 6);
        x.pass(1);
        CHECK.due("another one behind a failure in the same tick", servicesOfRepairs(x), 9555);
        dueRepairs(x, "not made", 1, 0);
        x.fault(5, BrambleMesh.DOWN, 0);
        x.fault(6, BrambleMesh.WRONG, 0);
        x.pass(2);
        dueRepairs(x, "made", 1, 1);
        int calls = x.calls();
        x.pass(10);
        CHECK.due("once", x.calls(), calls);
        CHECK.due("repairs do not pay", x.budget(0) + x.extra(0), 1000);
        CHECK.due("nor count", x.first(0), 1);
    }

    private static void promise25TriesWithoutAnInstance() {
        BrambleMesh x = new BrambleMesh();
        x.policy(ALL, ALL, BrambleMesh.RETRIES, 0);
        x.instance(0, 0, 1, 9, 9, 0);
        x.instance(1, 0, 1, 9, 9, 0);
        x.step(0, 1, true, 5);
        x.fault(1, BrambleMesh.WRONG, 1);
        x.canary(5, 50);
        x.request(0, true, 20);
        x.pass(8);
        dueRepairs(x, "no instance to undo it", 1, 0);
        CHECK.due("no call", x.calls(), 2);
        x.instance(5, 0, 1, 9, 9, 1);
        x.instance(5, 0, 1, 9, 9, 0);
        x.pass(1);
        CHECK.due("try 8, one for each tick from 2, wants the version 1", x.call(2, 1), 2);
        x.pass(1);
        dueRepairs(x, "made", 1, 1);
    }

    /** The version of the call of a repair that has so many tries, the earlier ones without an instance, with a share of 1. */
    private static int versionOfTry(int tries) {
        BrambleMesh x = new BrambleMesh();
        x.policy(ALL, ALL, BrambleMesh.RETRIES, 0);
        x.instance(0, 0, 1, 9, 9, 0);
        x.instance(1, 0, 1, 9, 9, 0);
        x.step(0, 1, true, 5);
        x.fault(1, BrambleMesh.WRONG, 1);
        x.canary(5, 1);
        x.request(0, true, 20);
        x.pass(1);
        for (int i = 1; i < tries; i++) {
            x.pass(1);
        }
        x.instance(5, 0, 1, 9, 9, 0);
        x.instance(5, 0, 1, 9, 9, 1);
        x.pass(1);
        return x.call(2, 1) - 2;
    }

    private static void promise24AShareOf1() {
        CHECK.due("try 98", versionOfTry(98), 0);
        CHECK.due("try 99", versionOfTry(99), 0);
        CHECK.due("try 100", versionOfTry(100), 1);
        CHECK.due("try 101", versionOfTry(101), 0);
        CHECK.due("try 199", versionOfTry(199), 0);
        CHECK.due("try 200", versionOfTry(200), 1);
    }

    /** Three tries that fail open the breaker of the service of the call. */
    private static void promise25BreakersCountRepairs() {
        BrambleMesh x = wideMesh();
        x.step(0, 1, true, 5);
        x.fault(1, BrambleMesh.WRONG, 1);
        x.fault(5, BrambleMesh.DOWN, 1);
        x.request(0, true, 20);
        x.pass(3);
        CHECK.due("two refused", x.breaker(0, 5), BrambleMesh.CLOSED);
        x.pass(1);
        CHECK.due("three refused", x.breaker(0, 5), BrambleMesh.OPEN);
        int calls = x.calls();
        x.fault(5, BrambleMesh.DOWN, 0);
        x.pass(9);
        CHECK.due("no call meanwhile", x.calls(), calls);
        x.pass(1);
        CHECK.due("a call as it is HALF", x.calls(), calls + 1);
        x.pass(1);
        CHECK.due("an OK closes it", x.breaker(0, 5), BrambleMesh.CLOSED);
        dueRepairs(x, "made", 1, 1);
    }

    private static void promise25TheDeadlineIsTheTimeout() {
        BrambleMesh x = wideMesh();
        x.step(0, 1, true, 5);
        x.policy(0, 5, BrambleMesh.TIMEOUT, 4);
        x.work(5, 9);
        x.fault(1, BrambleMesh.WRONG, 1);
        x.request(0, true, 3);
        x.pass(2);
        CHECK.due("behind the deadline of the request", x.call(2, 3), 6);
        x.pass(4);
        CHECK.due("LATE", x.call(2, 2), BrambleMesh.LATE);
        CHECK.due("another one", x.call(3, 3), 10);
        x.work(5, 1);
        x.pass(4);
        x.pass(1);
        dueRepairs(x, "made", 1, 1);
    }

    /** A reply that is lost is waited for till the deadline; then the repair is tried again. */
    private static void promise25LostRepairs() {
        BrambleMesh x = wideMesh();
        x.step(0, 1, true, 5);
        x.policy(0, 5, BrambleMesh.TIMEOUT, 4);
        x.fault(1, BrambleMesh.WRONG, 1);
        x.fault(5, BrambleMesh.LOST, 1);
        x.request(0, true, 3);
        x.pass(5);
        CHECK.due("OK, but lost", x.call(2, 2), BrambleMesh.OK);
        dueRepairs(x, "not known", 1, 0);
        CHECK.due("no other try", x.calls(), 3);
        x.fault(5, BrambleMesh.LOST, 0);
        x.pass(1);
        CHECK.due("another try", x.calls(), 4);
        x.pass(1);
        dueRepairs(x, "made", 1, 1);
    }

    /** Calls of a repair have steps of their own, which pay, and which are undone. */
    private static void promise25RepairsOfRepairs() {
        BrambleMesh x = wideMesh();
        x.step(0, 1, true, 2);
        x.step(2, 3, true, 4);
        x.step(2, 5, true, NONE);
        x.fault(1, BrambleMesh.WRONG, 1);
        x.fault(5, BrambleMesh.WRONG, 1);
        x.request(0, true, 20);
        x.pass(5);
        CHECK.due("the repair has failed once", x.call(2, 2), BrambleMesh.FAILED);
        dueRepairs(x, "one for the step of the repair", 2, 0);
        CHECK.due("first tries of the service of the repair", x.first(2), 2);
        CHECK.due("4 is called for the new one", x.call(x.calls() - 1, 0), 4);
        CHECK.due("and 2 again", x.call(x.calls() - 2, 0), 2);
        x.fault(5, BrambleMesh.WRONG, 0);
        x.pass(5);
        dueRepairs(x, "made", 2, 2);
    }

    private static void promise25NoMoreThan100() {
        BrambleMesh x = wideMesh();
        for (int i = 0; i < 4; i++) {
            x.step(0, 1, false, 5);
        }
        x.work(1, 0);
        x.instance(0, 0, 9, 9, 9, 0);
        x.fault(5, BrambleMesh.WRONG, 1);
        for (int i = 0; i < 26; i++) {
            x.request(0, false, 5);
            x.pass(5);
            CHECK.due("LATE", x.requestState(i), BrambleMesh.LATE);
            CHECK.due("four for each, as far as 100", x.repairs(false), Math.min(100, 4 * (i + 1)));
            if (i == 0) {
                // What undoes is refused from now on without a call, so that calls are left.
                x.fault(5, BrambleMesh.DOWN, 1);
                x.eyes(1);
            }
        }
        CHECK.due("none is made", x.repairs(true), 0);
    }

    public static void main(String[] args) {
        promise25NoneWithoutAnUndo();
        promise25NoneBehindAnOk();
        promise25FromTheLatestStepBackwards();
        promise25OnlyStepsThatHaveRun();
        promise25ACallOfTheStepHasRun();
        promise25RepairsOfCallsOfItsStepsComeFirst();
        promise25TriesThatGoOffByRisingNumbers();
        promise25WhatGoesOffIsUndone();
        promise25ItGoesOnUntilItIsMade();
        promise25TriesWithoutAnInstance();
        promise24AShareOf1();
        promise25BreakersCountRepairs();
        promise25TheDeadlineIsTheTimeout();
        promise25LostRepairs();
        promise25RepairsOfRepairs();
        promise25NoMoreThan100();
        CHECK.end();
    }
}
