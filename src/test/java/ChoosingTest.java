/** Promises 21 to 24, and how an instance is chosen: breakers, shunned instances, loads, zones and weights, canaries. */
public final class ChoosingTest {
    private static final int ALL = BrambleMesh.NONE;
    private static final int NONE = BrambleMesh.NONE;
    private static final int CLIENT = BrambleMesh.CLIENT;
    private static final Check CHECK = new Check();

    /** The instance of the first call that a request of service 0 makes now. */
    private static int chosenBy(BrambleMesh x, int service) {
        int call = x.calls();
        x.request(service, true, 100);
        return x.calls() > call ? x.call(call, 1) : NONE;
    }

    private static BrambleMesh meshOf(int... zoneWeightVersion) {
        BrambleMesh x = new BrambleMesh();
        x.policy(ALL, ALL, BrambleMesh.RETRIES, 0);
        for (int i = 0; i + 2 < zoneWeightVersion.length; i += 3) {
            x.instance(0, zoneWeightVersion[i], zoneWeightVersion[i + 1], 9, 9, zoneWeightVersion[i + 2]);
        }
        return x;
    }

    private static void dueBreaker(BrambleMesh x, String what, int caller, int instance, int due) {
        CHECK.due(what, x.breaker(caller, instance), due);
    }

    private static void promise21NoSuchBreaker() {
        BrambleMesh x = meshOf(0, 1, 0);
        CHECK.refused("breaker: caller -1", x, Check.NO_SUCH, () -> x.breaker(-1, 0));
        CHECK.refused("breaker: caller 7", x, Check.NO_SUCH, () -> x.breaker(7, 0));
        CHECK.refused("breaker: instance -1", x, Check.NO_SUCH, () -> x.breaker(0, -1));
        CHECK.refused("breaker: instance 1", x, Check.NO_SUCH, () -> x.breaker(0, 1));
    }

    private static void promise21ThreeInARowOpen() {
        BrambleMesh x = meshOf(0, 1, 0);
        x.fault(0, BrambleMesh.WRONG, 1);
        x.request(0, true, 50);
        x.request(0, true, 50);
        x.pass(1);
        x.fault(0, BrambleMesh.WRONG, 0);
        x.request(0, true, 50);
        x.pass(1);
        x.fault(0, BrambleMesh.WRONG, 1);
        x.request(0, true, 50);
        x.request(0, true, 50);
        x.pass(1);
        dueBreaker(x, "an OK between them", CLIENT, 0, BrambleMesh.CLOSED);
        x.request(0, true, 50);
        x.request(0, true, 50);
        dueBreaker(x, "not yet looked at", CLIENT, 0, BrambleMesh.CLOSED);
        x.pass(1);
        dueBreaker(x, "three in a row", CLIENT, 0, BrambleMesh.OPEN);
        dueBreaker(x, "of that caller alone", 0, 0, BrambleMesh.CLOSED);
        CHECK.due("it can not be chosen", chosenBy(x, 0), NONE);
        CHECK.due("the request fails", x.requestState(7), BrambleMesh.FAILED);
        x.pass(9);
        dueBreaker(x, "9 ticks later", CLIENT, 0, BrambleMesh.OPEN);
        x.pass(1);
        dueBreaker(x, "10 ticks later", CLIENT, 0, BrambleMesh.HALF);
    }

    private static void promise21RefusedAndLateCount() {
        BrambleMesh x = meshOf(0, 1, 0);
        x.fault(0, BrambleMesh.DOWN, 1);
        x.request(0, true, 50);
        x.request(0, true, 50);
        dueBreaker(x, "two refused", CLIENT, 0, BrambleMesh.CLOSED);
        x.request(0, true, 50);
        dueBreaker(x, "three refused, at once", CLIENT, 0, BrambleMesh.OPEN);
        BrambleMesh y = meshOf(0, 1, 0);
        y.policy(ALL, ALL, BrambleMesh.TIMEOUT, 3);
        y.fault(0, BrambleMesh.LOST, 1);
        y.request(0, true, 50);
        y.request(0, true, 50);
        y.request(0, true, 50);
        y.pass(2);
        dueBreaker(y, "OK that is lost is not known", CLIENT, 0, BrambleMesh.CLOSED);
        y.pass(1);
        dueBreaker(y, "but LATE at the deadline", CLIENT, 0, BrambleMesh.OPEN);
    }

    /** A request whose deadline has come looks at nothing any more. */
    private static void promise21WhatIsNotLookedAtDoesNotCount() {
        BrambleMesh x = meshOf(0, 1, 0);
        x.work(0, 9);
        for (int i = 0; i < 4; i++) {
            x.request(0, true, 3);
        }
        x.pass(3);
        CHECK.due("LATE", x.requestState(0), BrambleMesh.LATE);
        CHECK.due("the call as well", x.call(0, 2), BrambleMesh.LATE);
        dueBreaker(x, "not looked at", CLIENT, 0, BrambleMesh.CLOSED);
    }

    private static BrambleMesh halfOpenMesh() {
        BrambleMesh x = meshOf(0, 1, 0);
        x.fault(0, BrambleMesh.DOWN, 1);
        for (int i = 0; i < 3; i++) {
            x.request(0, true, 50);
        }
        x.fault(0, BrambleMesh.DOWN, 0);
        x.pass(10);
        dueBreaker(x, "half open", CLIENT, 0, BrambleMesh.HALF);
        return x;
    }

    private static void promise21HalfOpen() {
        BrambleMesh x = halfOpenMesh();
        x.work(0, 3);
        CHECK.due("one try", chosenBy(x, 0), 0);
        CHECK.due("no other beside it", chosenBy(x, 0), NONE);
        x.pass(2);
        CHECK.due("nor later", chosenBy(x, 0), NONE);
        dueBreaker(x, "still HALF", CLIENT, 0, BrambleMesh.HALF);
        x.pass(1);
        dueBreaker(x, "an OK closes it", CLIENT, 0, BrambleMesh.CLOSED);
        x.fault(0, BrambleMesh.DOWN, 1);
        x.request(0, true, 50);
        x.request(0, true, 50);
        dueBreaker(x, "0 in a row by that", CLIENT, 0, BrambleMesh.CLOSED);
    }

    private static void promise21HalfOpenThatFails() {
        BrambleMesh x = halfOpenMesh();
        x.fault(0, BrambleMesh.WRONG, 1);
        x.request(0, true, 50);
        x.pass(1);
        dueBreaker(x, "one failure opens it", CLIENT, 0, BrambleMesh.OPEN);
        x.pass(9);
        dueBreaker(x, "for 10 ticks again", CLIENT, 0, BrambleMesh.OPEN);
        x.pass(1);
        dueBreaker(x, "then it is HALF", CLIENT, 0, BrambleMesh.HALF);
    }

    private static void promise21TriesOfStepsThatAreOverAreNotOut() {
        BrambleMesh x = halfOpenMesh();
        x.work(0, 20);
        x.request(0, true, 2);
        CHECK.due("a try is out", chosenBy(x, 0), NONE);
        x.pass(2);
        CHECK.due("LATE with its request", x.call(x.calls() - 1, 2), BrambleMesh.LATE);
        dueBreaker(x, "nothing was looked at", CLIENT, 0, BrambleMesh.HALF);
        CHECK.due("it is not out any more", chosenBy(x, 0), 0);
    }

    /** A reply that is lost is out till its deadline. */
    private static void promise21LostTriesAreOut() {
        BrambleMesh x = halfOpenMesh();
        x.policy(ALL, ALL, BrambleMesh.TIMEOUT, 5);
        x.fault(0, BrambleMesh.LOST, 1);
        x.request(0, true, 50);
        x.pass(4);
        CHECK.due("OK", x.call(x.calls() - 1, 2), BrambleMesh.OK);
        CHECK.due("but out", chosenBy(x, 0), NONE);
        x.pass(1);
        dueBreaker(x, "LATE opens it", CLIENT, 0, BrambleMesh.OPEN);
    }

    private static void promise21NoneCountWhileItIsOpen() {
        BrambleMesh x = meshOf(0, 1, 0);
        x.work(0, 4);
        x.request(0, true, 50);
        x.fault(0, BrambleMesh.DOWN, 1);
        for (int i = 0; i < 3; i++) {
            x.request(0, true, 50);
        }
        x.pass(4);
        CHECK.due("an OK", x.requestState(0), BrambleMesh.OK);
        dueBreaker(x, "does not close what is OPEN", CLIENT, 0, BrambleMesh.OPEN);
        x.pass(6);
        dueBreaker(x, "HALF as told", CLIENT, 0, BrambleMesh.HALF);
    }

    /** Also one that was made ahead of those that opened it. */
    private static void promise21OldTriesAreOutAsWell() {
        BrambleMesh x = meshOf(0, 1, 0);
        x.work(0, 15);
        x.request(0, true, 50);
        x.fault(0, BrambleMesh.DOWN, 1);
        for (int i = 0; i < 3; i++) {
            x.request(0, true, 50);
        }
        x.fault(0, BrambleMesh.DOWN, 0);
        x.pass(10);
        dueBreaker(x, "HALF", CLIENT, 0, BrambleMesh.HALF);
        CHECK.due("call 0 is out", x.call(0, 2), BrambleMesh.RUNNING);
        CHECK.due("so it can not be chosen", chosenBy(x, 0), NONE);
    }

    /** A try whose end is known is not out, though nobody has looked at it yet. */
    private static void promise21KnownEndsAreNotOut() {
        BrambleMesh x = meshOf(0, 1, 0);
        x.fault(0, BrambleMesh.DOWN, 1);
        for (int i = 0; i < 3; i++) {
            x.request(0, true, 50);
        }
        x.fault(0, BrambleMesh.DOWN, 0);
        x.instance(0, 0, 1, 9, 9, 0);
        x.pass(9);
        x.fault(1, BrambleMesh.SLOW, 2);
        x.fault(1, BrambleMesh.WRONG, 1);
        x.policy(ALL, ALL, BrambleMesh.RETRIES, 1);
        x.request(0, true, 50);
        x.pass(2);
        CHECK.due("a try that is out", chosenBy(x, 0), 0);
        x.pass(1);
        CHECK.due("both end, the request with the lower number goes on first", x.call(3, 2) * 10 + x.call(4, 2), 43);
        CHECK.due("it tries where the other one has just ended", x.call(5, 5) * 10 + x.call(5, 1), 30);
    }

    /** A step of a call that has gone OFF is over, also if the reply to its try is lost. */
    private static void promise21StepsOfCallsThatHaveEndedAreOver() {
        BrambleMesh x = new BrambleMesh();
        x.policy(ALL, ALL, BrambleMesh.RETRIES, 0);
        x.instance(0, 0, 1, 9, 9, 0);
        x.instance(0, 0, 1, 9, 9, 0);
        x.instance(1, 0, 1, 9, 9, 0);
        x.step(0, 1, true, NONE);
        x.fault(2, BrambleMesh.DOWN, 1);
        for (int i = 0; i < 3; i++) {
            x.request(0, true, 50);
        }
        x.pass(1);
        dueBreaker(x, "OPEN", 0, 2, BrambleMesh.OPEN);
        x.pass(10);
        x.fault(2, BrambleMesh.DOWN, 0);
        x.fault(2, BrambleMesh.LOST, 1);
        x.instance(1, 1, 1, 9, 9, 0);
        x.policy(CLIENT, 0, BrambleMesh.HEDGE, 1);
        x.request(0, true, 50);
        x.pass(3);
        CHECK.due("the try of the first one", x.call(7, 1), 2);
        CHECK.due("the request is done by the hedge", x.requestState(3), BrambleMesh.OK);
        CHECK.due("the first one is OFF", x.call(6, 2), BrambleMesh.OFF);
        dueBreaker(x, "HALF", 0, 2, BrambleMesh.HALF);
        x.request(0, true, 50);
        int calls = x.calls();
        x.pass(1);
        CHECK.due("not out, and of less burden than another zone", x.call(calls, 1), 2);
    }

    private static void promise22Shunned() {
        BrambleMesh x = meshOf(0, 1, 0);
        CHECK.refused("shunned: -1", x, Check.NO_SUCH, () -> x.isShunned(-1));
        CHECK.refused("shunned: 1", x, Check.NO_SUCH, () -> x.isShunned(1));
        CHECK.due("not at first", x.isShunned(0), false);
    }

    /** The services 0 and 1 and the CLIENT all call service 2, whose instance, 0, is DOWN till all breakers but one are OPEN. */
    private static BrambleMesh watchedMesh() {
        BrambleMesh x = new BrambleMesh();
        x.instance(2, 0, 1, 9, 9, 0);
        x.instance(0, 0, 1, 9, 9, 0);
        x.instance(1, 0, 1, 9, 9, 0);
        x.step(0, 2, true, NONE);
        x.step(1, 2, true, NONE);
        x.policy(ALL, 2, BrambleMesh.RETRIES, 2);
        x.policy(ALL, 0, BrambleMesh.RETRIES, 0);
        x.policy(ALL, 1, BrambleMesh.RETRIES, 0);
        x.fault(0, BrambleMesh.DOWN, 1);
        return x;
    }

    private static void promise22ManyEyes() {
        BrambleMesh x = watchedMesh();
        x.request(2, true, 20);
        x.request(0, true, 20);
        CHECK.due("one eye", x.isShunned(0), false);
        x.pass(1);
        dueBreaker(x, "of service 0", 0, 0, BrambleMesh.OPEN);
        dueBreaker(x, "of service 1", 1, 0, BrambleMesh.CLOSED);
        CHECK.due("two eyes", x.isShunned(0), false);
        x.eyes(2);
        CHECK.due("two are enough, if told", x.isShunned(0), true);
        x.fault(0, BrambleMesh.DOWN, 0);
        x.request(1, true, 20);
        int calls = x.calls();
        x.pass(1);
        CHECK.due("what is shunned is not chosen, also if CLOSED", x.calls(), calls);
        CHECK.due("the request", x.requestState(2), BrambleMesh.FAILED);
        x.eyes(3);
        CHECK.due("three are more", x.isShunned(0), false);
        x.request(1, true, 20);
        x.pass(2);
        CHECK.due("the request by which it is chosen", x.requestState(3), BrambleMesh.OK);
        x.eyes(1);
        x.pass(6);
        CHECK.due("one is HALF, one is OPEN", x.breaker(CLIENT, 0) * 10 + x.breaker(0, 0), 21);
        CHECK.due("one eye is enough", x.isShunned(0), true);
        x.pass(1);
        CHECK.due("HALF does not shun", x.isShunned(0), false);
    }

    private static void promise22ThreeEyesAtFirst() {
        BrambleMesh x = watchedMesh();
        x.request(2, true, 20);
        x.request(0, true, 20);
        x.request(1, true, 20);
        x.pass(1);
        CHECK.due("three are OPEN", x.isShunned(0), true);
        CHECK.due("another one is not", x.isShunned(1), false);
    }

    private static void promise23Load() {
        BrambleMesh x = meshOf(0, 1, 0);
        CHECK.refused("load: -1", x, Check.NO_SUCH, () -> x.load(-1, true));
        CHECK.refused("load: 1", x, Check.NO_SUCH, () -> x.load(1, false));
        x.instance(1, 0, 1, 1, 9, 0);
        x.step(0, 1, true, NONE);
        x.work(1, 7);
        x.request(0, true, 90);
        x.request(0, true, 90);
        CHECK.due("now, at once", x.load(0, true), 2);
        CHECK.due("told, at first", x.load(0, false), 0);
        x.pass(1);
        CHECK.due("CALLING counts", x.load(0, true), 2);
        CHECK.due("QUEUED counts", x.load(1, true), 2);
        x.pass(3);
        CHECK.due("told in a tick that is a multiple of 5", x.load(0, false) + x.load(1, false), 0);
        x.pass(1);
        CHECK.due("told of 0", x.load(0, false), 2);
        CHECK.due("told of 1", x.load(1, false), 2);
        x.pass(4);
        CHECK.due("now, behind an end", x.load(1, true), 1);
        CHECK.due("told is old", x.load(1, false), 2);
        x.pass(1);
        CHECK.due("told again", x.load(1, false), 1);
    }

    private static void promise23TheLeastBurden() {
        BrambleMesh y = meshOf(0, 1, 0, 0, 9, 0);
        CHECK.due("nothing there, the lowest", chosenBy(y, 0), 0);
        y.pass(5);
        CHECK.due("nothing there again", chosenBy(y, 0), 0);
        BrambleMesh x = meshOf(0, 2, 0, 0, 3, 0, 0, 1, 0);
        int[] due = {0, 1, 2, 1, 0, 1, 0, 1, 2, 1, 0};
        for (int i = 0; i < due.length; i++) {
            CHECK.due("by weight, try " + i, chosenBy(x, 0), due[i]);
        }
    }

    private static void promise23LoadsAreToldAndOld() {
        BrambleMesh x = meshOf(0, 1, 0, 0, 1, 0);
        x.pass(4);
        x.work(0, 5);
        CHECK.due("the lowest", chosenBy(x, 0), 0);
        CHECK.due("tries count at once", chosenBy(x, 0), 1);
        CHECK.due("the lowest again", chosenBy(x, 0), 0);
        x.pass(1);
        CHECK.due("told", x.load(0, false) * 10 + x.load(1, false), 21);
        CHECK.due("as told, without the tries ahead", chosenBy(x, 0), 1);
        CHECK.due("2 and 0 or 1 and 1", chosenBy(x, 0), 0);
        CHECK.due("3 or 2", chosenBy(x, 0), 1);
        x.pass(4);
        CHECK.due("ended, but told", x.load(0, true), 1);
        CHECK.due("3 or 3", chosenBy(x, 0), 0);
        CHECK.due("4 or 3", chosenBy(x, 0), 1);
    }

    private static void promise23TriesOfOthersDoNotCount() {
        BrambleMesh x = meshOf(0, 1, 0, 0, 1, 0);
        x.instance(1, 0, 1, 9, 9, 0);
        x.instance(1, 0, 1, 9, 9, 0);
        x.step(0, 1, true, NONE);
        x.request(1, true, 20);
        x.request(0, true, 20);
        x.pass(1);
        CHECK.due("the client went to the first one", x.call(0, 1), 2);
        CHECK.due("the service as well", x.call(2, 1), 2);
        CHECK.due("the client goes to the other", chosenBy(x, 1), 3);
    }

    /** Tries of a service count till the load is told. */
    private static void promise23TriesOfAServiceSinceItWasTold() {
        BrambleMesh x = meshOf(0, 1, 0);
        x.instance(1, 0, 1, 9, 9, 0);
        x.instance(1, 0, 1, 9, 9, 0);
        x.step(0, 1, true, NONE);
        x.request(0, true, 20);
        x.pass(5);
        CHECK.due("the first one", x.call(1, 1), 1);
        x.request(0, true, 20);
        x.pass(1);
        CHECK.due("the first one, told as 0 since", x.call(3, 1), 1);
        x.request(0, true, 20);
        x.pass(1);
        CHECK.due("the other one, as nothing was told since", x.call(5, 1), 2);
    }

    private static void promise23Zones() {
        BrambleMesh x = meshOf(1, 1, 0, 0, 1, 0);
        CHECK.due("the zone of the client is 0", chosenBy(x, 0), 1);
        CHECK.due("150 are more than 100", chosenBy(x, 0), 1);
        CHECK.due("and less than 200", chosenBy(x, 0), 0);
        BrambleMesh y = meshOf(2, 1, 0);
        y.instance(1, 0, 1, 9, 9, 0);
        y.instance(1, 1, 1, 9, 9, 0);
        y.instance(1, 2, 1, 9, 9, 0);
        y.step(0, 1, true, NONE);
        y.request(0, true, 20);
        y.pass(1);
        CHECK.due("the zone of the instance that calls", y.call(1, 1), 3);
    }

    private static void promise23RoundedDown() {
        BrambleMesh x = meshOf(1, 9, 0, 0, 2, 0);
        CHECK.due("0 or 150", chosenBy(x, 0), 1);
        CHECK.due("50 or 150", chosenBy(x, 0), 1);
        CHECK.due("100 or 150", chosenBy(x, 0), 1);
        CHECK.due("150 and 150, the lowest", chosenBy(x, 0), 0);
        CHECK.due("150 or 161", chosenBy(x, 0), 1);
        CHECK.due("200 or 161", chosenBy(x, 0), 0);
        BrambleMesh z = meshOf(0, 2, 0, 1, 9, 0);
        for (int i = 0; i < 4; i++) {
            CHECK.due("150 and 150, the one in the zone", chosenBy(z, 0), 0);
        }
        CHECK.due("200 or 150", chosenBy(z, 0), 1);
        BrambleMesh y = meshOf(0, 3, 0, 0, 3, 0, 0, 6, 0);
        int[] due = {0, 1, 2, 2, 0};
        for (int i = 0; i < due.length; i++) {
            CHECK.due("33 and 33, try " + i, chosenBy(y, 0), due[i]);
        }
    }

    /** A retry goes where the step was not, even at a greater burden; if it was everywhere, to the least burden. */
    private static void promise23WhereTheStepWasNot() {
        BrambleMesh x = meshOf(0, 9, 0, 1, 1, 0);
        x.policy(ALL, ALL, BrambleMesh.RETRIES, 2);
        x.fault(0, BrambleMesh.WRONG, 1);
        x.fault(1, BrambleMesh.WRONG, 1);
        x.request(0, true, 20);
        x.pass(3);
        CHECK.due("three tries", x.calls(), 3);
        CHECK.due("first, other, first", x.call(0, 1) * 100 + x.call(1, 1) * 10 + x.call(2, 1), 10);
    }

    private static void promise24CanaryShare() {
        BrambleMesh x = meshOf(0, 9, 0, 0, 9, 1);
        CHECK.refused("canary share: -1", x, Check.NO_SUCH, () -> x.canaryShare(-1));
        CHECK.refused("canary share: 6", x, Check.NO_SUCH, () -> x.canaryShare(6));
        x.canary(0, 30);
        CHECK.due("as told", x.canaryShare(0), 30);
        int[] due = {0, 0, 0, 1, 0, 0, 1, 0, 0, 1, 0, 0, 0, 1};
        for (int i = 0; i < due.length; i++) {
            CHECK.due("version of try " + (i + 1), chosenBy(x, 0), due[i]);
        }
        x.canary(0, 50);
        CHECK.due("counted anew, 1", chosenBy(x, 0), 0);
        CHECK.due("counted anew, 2", chosenBy(x, 0), 1);
        CHECK.due("counted on, 3", chosenBy(x, 0), 0);
        x.canary(0, 50);
        CHECK.due("counted anew, behind 3", chosenBy(x, 0), 0);
        x.canary(0, 100);
        CHECK.due("all", chosenBy(x, 0) + chosenBy(x, 0) + chosenBy(x, 0), 3);
        x.canary(0, 0);
        x.pass(5);
        CHECK.due("none is wanted, 1", chosenBy(x, 0), 0);
        CHECK.due("none is wanted, 2", chosenBy(x, 0), 1);
    }

    private static void promise24TriesWithoutAnInstanceCount() {
        BrambleMesh x = new BrambleMesh();
        x.policy(ALL, ALL, BrambleMesh.RETRIES, 0);
        x.canary(0, 50);
        CHECK.due("no instance", chosenBy(x, 0), NONE);
        x.instance(0, 0, 1, 9, 9, 0);
        x.instance(0, 0, 1, 9, 9, 1);
        CHECK.due("the second try", chosenBy(x, 0), 1);
    }

    private static void promise24AVersionThatIsNotThere() {
        BrambleMesh x = meshOf(0, 1, 0, 0, 1, 0);
        x.canary(0, 100);
        CHECK.due("another version, if there is none of that", chosenBy(x, 0), 0);
        CHECK.due("by its burden", chosenBy(x, 0), 1);
        BrambleMesh y = meshOf(0, 1, 1, 1, 1, 0);
        y.canary(0, 100);
        y.policy(ALL, ALL, BrambleMesh.RETRIES, 1);
        y.fault(0, BrambleMesh.WRONG, 1);
        y.request(0, true, 20);
        y.pass(1);
        CHECK.due("where the step was not counts more than the version", y.call(1, 1), 1);
    }

    /** Ends that are looked at, in this order: 'a' OK and 'x' FAILED at the version 0, 'A' OK and 'X' FAILED at 1. */
    private static int shareBehind(String ends) {
        BrambleMesh x = meshOf(0, 1, 0, 0, 1, 1);
        x.canary(0, 50);
        int tries = 0;
        for (int i = 0; i < ends.length(); i++) {
            char end = ends.charAt(i);
            int version = end == 'A' || end == 'X' ? 1 : 0;
            if (tries % 2 != version) {
                tryWithoutAnEnd(x);
                tries++;
            }
            x.fault(version, BrambleMesh.WRONG, end == 'x' || end == 'X' ? 1 : 0);
            CHECK.due("the version for " + end, chosenBy(x, 0), version);
            tries++;
            x.pass(1);
        }
        return x.canaryShare(0);
    }

    /** LATE together with its request, so that nobody looks at its end. */
    private static void tryWithoutAnEnd(BrambleMesh x) {
        x.work(0, 9);
        x.request(0, true, 1);
        x.work(0, 1);
        x.pass(1);
    }

    private static void promise24Judge() {
        CHECK.due("5 of 1, 2 not OK, all of 0 OK", shareBehind("aaaaaAAAXX"), 0);
        CHECK.due("ahead of the last one", shareBehind("aaaaaAAAX"), 50);
        CHECK.due("in any order", shareBehind("aXaXaAaAaA"), 0);
        CHECK.due("one not OK is too few", shareBehind("aaaaaAAAAX"), 50);
        CHECK.due("4 of the version 1 are too few", shareBehind("aaaaaaAXXX"), 50);
        CHECK.due("2 of 5 are not more than twice 1 of 5", shareBehind("aaaaxAAAXX"), 50);
        CHECK.due("3 of 5 are more than twice 1 of 5", shareBehind("aaaaxAAXXX"), 0);
        CHECK.due("2 of 5 are more than twice 1 of 6", shareBehind("aaaaaxAAAXX"), 0);
        CHECK.due("by an end at the version 0", shareBehind("aaaaxAAAXXa"), 0);
        CHECK.due("3 of 6 are not more than twice 2 of 8", shareBehind("aaaaaaxxAAAXXX"), 50);
        CHECK.due("3 of 6 are more than twice 2 of 9", shareBehind("aaaaaaaxxAAAXXX"), 0);
        CHECK.due("none of the version 0", shareBehind("AAAAXX"), 50);
        CHECK.due("the first one of the version 0", shareBehind("AAAAXXa"), 0);
    }

    private static void promise24WhatIsCountedIs0Behind() {
        BrambleMesh x = meshOf(0, 1, 0, 0, 1, 1);
        x.fault(1, BrambleMesh.WRONG, 1);
        x.canary(0, 50);
        for (int i = 0; i < 4; i++) {
            chosenBy(x, 0);
        }
        x.pass(1);
        x.fault(1, BrambleMesh.WRONG, 0);
        for (int i = 0; i < 4; i++) {
            chosenBy(x, 0);
        }
        x.canary(0, 60);
        x.pass(1);
        CHECK.due("2 of 4 and then, of a new count, 0 of 2", x.canaryShare(0), 60);
        chosenBy(x, 0);
        chosenBy(x, 0);
        x.pass(1);
        CHECK.due("0 of 3 not OK", x.canaryShare(0), 60);
    }

    /** Ends at the version 1, as in shareBehind, with a share that is set anew in between. */
    private static int shareBehindTwo(String ends, String endsThen) {
        BrambleMesh x = new BrambleMesh();
        x.policy(ALL, ALL, BrambleMesh.RETRIES, 0);
        x.instance(0, 0, 1, 9, 9, 0);
        x.instance(0, 0, 1, 9, 9, 1);
        x.canary(0, 100);
        makeEnds(x, ends);
        x.canary(0, 90);
        CHECK.due("an old one, as the first try", chosenBy(x, 0), 0);
        makeEnds(x, endsThen);
        return x.canaryShare(0);
    }

    private static void makeEnds(BrambleMesh x, String ends) {
        for (int i = 0; i < ends.length(); i++) {
            x.fault(1, BrambleMesh.WRONG, ends.charAt(i) == 'X' ? 1 : 0);
            CHECK.due("the version", chosenBy(x, 0), 1);
            x.pass(1);
        }
    }

    private static void promise24BothCountsAre0Behind() {
        CHECK.due("2 not OK of 5, anew", shareBehindTwo("", "AAXAX"), 0);
        CHECK.due("2 not OK are not counted any more", shareBehindTwo("XX", "AAAAA"), 90);
        CHECK.due("4 are not counted any more", shareBehindTwo("AAAA", "AXAX"), 90);
        BrambleMesh x = meshOf(0, 1, 1);
        x.canary(0, 50);
        x.instance(0, 0, 1, 9, 9, 0);
        CHECK.due("one of the version 0", chosenBy(x, 0), 1);
        x.pass(1);
        x.canary(0, 100);
        for (int i = 0; i < 5; i++) {
            x.fault(0, BrambleMesh.WRONG, i % 2);
            CHECK.due("of the version 1", chosenBy(x, 0), 0);
            x.pass(1);
        }
        CHECK.due("it is not counted any more", x.canaryShare(0), 100);
        x.canary(0, 90);
        x.fault(1, BrambleMesh.WRONG, 1);
        CHECK.due("one of the version 0 that is not OK", chosenBy(x, 0), 1);
        x.pass(1);
        x.canary(0, 99);
        CHECK.due("and one that is", chosenBy(x, 0), 1);
        x.fault(1, BrambleMesh.WRONG, 0);
        x.pass(1);
        for (int i = 0; i < 5; i++) {
            x.fault(0, BrambleMesh.WRONG, i % 2);
            CHECK.due("of the version 1 again", chosenBy(x, 0), 0);
            x.pass(1);
        }
        CHECK.due("just the one that is counts", x.canaryShare(0), 0);
    }

    /** Ends count as they are known: what is lost is LATE. */
    private static void promise24WhatIsLostIsNotOk() {
        BrambleMesh x = meshOf(0, 1, 0, 0, 1, 1);
        x.policy(ALL, ALL, BrambleMesh.TIMEOUT, 3);
        x.canary(0, 50);
        for (int i = 0; i < 6; i++) {
            chosenBy(x, 0);
        }
        x.pass(1);
        x.fault(1, BrambleMesh.LOST, 1);
        for (int i = 0; i < 4; i++) {
            chosenBy(x, 0);
        }
        x.pass(2);
        CHECK.due("not known yet", x.canaryShare(0), 50);
        x.pass(1);
        CHECK.due("2 of 5 are LATE", x.canaryShare(0), 0);
    }

    public static void main(String[] args) {
        promise21NoSuchBreaker();
        promise21ThreeInARowOpen();
        promise21RefusedAndLateCount();
        promise21WhatIsNotLookedAtDoesNotCount();
        promise21HalfOpen();
        promise21HalfOpenThatFails();
        promise21TriesOfStepsThatAreOverAreNotOut();
        promise21LostTriesAreOut();
        promise21NoneCountWhileItIsOpen();
        promise21OldTriesAreOutAsWell();
        promise21KnownEndsAreNotOut();
        promise21StepsOfCallsThatHaveEndedAreOver();
        promise22Shunned();
        promise22ManyEyes();
        promise22ThreeEyesAtFirst();
        promise23Load();
        promise23TheLeastBurden();
        promise23LoadsAreToldAndOld();
        promise23TriesOfOthersDoNotCount();
        promise23TriesOfAServiceSinceItWasTold();
        promise23Zones();
        promise23RoundedDown();
        promise23WhereTheStepWasNot();
        promise24CanaryShare();
        promise24TriesWithoutAnInstanceCount();
        promise24AVersionThatIsNotThere();
        promise24Judge();
        promise24WhatIsCountedIs0Behind();
        promise24BothCountsAre0Behind();
        promise24WhatIsLostIsNotOk();
        CHECK.end();
    }
}
