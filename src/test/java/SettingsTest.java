/** Promises 1 to 10: a new object, and what is set: work, steps, instances, faults, policies, shares, eyes, canaries, traces. */
public final class SettingsTest {
    private static final int ALL = BrambleMesh.NONE;
    private static final int NONE = BrambleMesh.NONE;
    private static final int CLIENT = BrambleMesh.CLIENT;
    private static final Check CHECK = new Check();

    private static void promise1ANewObject() {
        BrambleMesh x = new BrambleMesh();
        CHECK.due("new: tick", x.tick(), 0);
        CHECK.due("new: calls", x.calls(), 0);
        CHECK.due("new: repairs", x.repairs(false) + x.repairs(true), 0);
        for (int caller = 0; caller <= 6; caller++) {
            CHECK.due("new: budget of " + caller, x.budget(caller), 1000);
            CHECK.due("new: extra and first of " + caller, x.extra(caller) + x.first(caller), 0);
        }
        for (int service = 0; service <= 5; service++) {
            CHECK.due("new: share of canaries of " + service, x.canaryShare(service), 0);
        }
        CHECK.refused("new: no request", x, Check.NO_SUCH, () -> x.requestState(0));
        CHECK.refused("new: no instance", x, Check.NO_SUCH, () -> x.load(0, true));
        CHECK.refused("new: no call", x, Check.NO_SUCH, () -> x.call(0, 0));
        CHECK.due("new: no steps", x.step(0, 1, true, NONE), 1);
        BrambleMesh y = new BrambleMesh();
        CHECK.due("objects share nothing", y.step(0, 1, true, NONE), 1);
    }

    private static void promise2Work() {
        BrambleMesh x = new BrambleMesh();
        for (int service = 0; service <= 5; service++) {
            CHECK.due("work is 1 at first", x.work(service, 0), 1);
            CHECK.due("work was 0", x.work(service, 50), 0);
            CHECK.due("work was 50", x.work(service, 3), 50);
        }
        CHECK.refused("work: service -1", x, Check.NO_SUCH, () -> x.work(-1, 1));
        CHECK.refused("work: service 6", x, Check.NO_SUCH, () -> x.work(6, 1));
        CHECK.refused("work: ticks -1", x, Check.BAD, () -> x.work(0, -1));
        CHECK.refused("work: ticks 51", x, Check.BAD, () -> x.work(0, 51));
        CHECK.refused("work: both", x, Check.NO_SUCH, () -> x.work(6, 51));
        CHECK.due("work: nothing changed", x.work(0, 1), 3);
    }

    /** Ticks that a request of service 0 takes with this work and this much of SLOW. */
    private static int ticksWith(int work, int slow) {
        BrambleMesh x = new BrambleMesh();
        x.policy(ALL, ALL, BrambleMesh.TIMEOUT, 100);
        x.instance(0, 0, 1, 1, 0, 0);
        x.work(0, work);
        x.fault(0, BrambleMesh.SLOW, slow);
        x.request(0, true, 200);
        for (int i = 0; i < 150 && x.requestState(0) == BrambleMesh.GOING; i++) {
            x.pass(1);
        }
        CHECK.due("work " + work + " slow " + slow + " ends", x.requestState(0), BrambleMesh.OK);
        return x.requestTicks(0);
    }

    private static void promise2WorkTakesTicks() {
        CHECK.due("work 0 takes 1", ticksWith(0, 0), 1);
        CHECK.due("work 1 takes 1", ticksWith(1, 0), 1);
        CHECK.due("work 7 takes 7", ticksWith(7, 0), 7);
        CHECK.due("work 0 and slow 1 take 1", ticksWith(0, 1), 1);
        CHECK.due("work 0 and slow 3 take 3", ticksWith(0, 3), 3);
        CHECK.due("work 2 and slow 3 take 5", ticksWith(2, 3), 5);
        CHECK.due("work 49 and slow 50 take 99", ticksWith(49, 50), 99);
    }

    private static void promise2WorkForCallsThatBeginFromNowOn() {
        BrambleMesh x = new BrambleMesh();
        x.instance(0, 0, 1, 1, 1, 0);
        x.work(0, 3);
        x.request(0, true, 50);
        x.request(0, true, 50);
        x.work(0, 5);
        x.pass(2);
        CHECK.due("the first one runs", x.call(0, 2), BrambleMesh.RUNNING);
        x.pass(1);
        CHECK.due("the first one takes 3 ticks", x.call(0, 2), BrambleMesh.OK);
        CHECK.due("the queued one begins in that tick", x.call(1, 2), BrambleMesh.RUNNING);
        x.work(0, 1);
        x.pass(4);
        CHECK.due("the second one takes 5 ticks", x.call(1, 2), BrambleMesh.RUNNING);
        x.pass(1);
        CHECK.due("the second one has taken 5 ticks", x.call(1, 2), BrambleMesh.OK);
    }

    private static void promise3Step() {
        BrambleMesh x = new BrambleMesh();
        CHECK.refused("step: service -1", x, Check.NO_SUCH, () -> x.step(-1, 1, true, NONE));
        CHECK.refused("step: service 6", x, Check.NO_SUCH, () -> x.step(6, 7, true, NONE));
        CHECK.refused("step: service 6 calls one that is there", x, Check.NO_SUCH, () -> x.step(6, 5, true, NONE));
        CHECK.refused("step: called -1", x, Check.NO_SUCH, () -> x.step(0, -1, true, NONE));
        CHECK.refused("step: called 6", x, Check.NO_SUCH, () -> x.step(0, 6, true, NONE));
        CHECK.refused("step: undo -2", x, Check.NO_SUCH, () -> x.step(0, 1, true, -2));
        CHECK.refused("step: undo 6", x, Check.NO_SUCH, () -> x.step(0, 1, true, 6));
        CHECK.refused("step: calls itself", x, Check.BAD, () -> x.step(2, 2, true, NONE));
        CHECK.refused("step: calls a lesser one", x, Check.BAD, () -> x.step(2, 1, true, NONE));
        CHECK.refused("step: undone by itself", x, Check.BAD, () -> x.step(2, 3, true, 2));
        CHECK.refused("step: undone by a lesser one", x, Check.BAD, () -> x.step(2, 3, true, 0));
        CHECK.refused("step: none is greater than 5", x, Check.BAD, () -> x.step(5, 5, true, NONE));
        CHECK.refused("step: no such undo ahead of called", x, Check.NO_SUCH, () -> x.step(2, 1, true, 6));
        CHECK.due("step 1", x.step(0, 1, true, 1), 1);
        CHECK.due("step 2", x.step(0, 5, false, 5), 2);
        CHECK.due("step 3", x.step(0, 1, false, NONE), 3);
        CHECK.due("step 4, undone by a lesser one than is called", x.step(0, 5, true, 1), 4);
        CHECK.refused("step: a fifth", x, Check.NOT_NOW, () -> x.step(0, 1, true, NONE));
        CHECK.refused("step: a fifth that does not fit", x, Check.BAD, () -> x.step(0, 0, true, NONE));
        CHECK.refused("step: a fifth of no such service", x, Check.NO_SUCH, () -> x.step(0, 6, true, 0));
        CHECK.due("step of 4", x.step(4, 5, true, NONE), 1);
        CHECK.refused("a request that is refused", x, Check.BAD, () -> x.request(4, true, 0));
        CHECK.due("step behind a request that was refused", x.step(4, 5, true, 5), 2);
        x.request(3, true, 5);
        CHECK.refused("step behind a request", x, Check.NOT_NOW, () -> x.step(1, 2, true, NONE));
        CHECK.refused("step behind a request that does not fit", x, Check.BAD, () -> x.step(1, 1, true, NONE));
    }

    private static void promise3StepsAreTakenInOrder() {
        BrambleMesh x = new BrambleMesh();
        for (int service = 0; service <= 3; service++) {
            x.instance(service, 0, 1, 9, 0, 0);
        }
        x.step(0, 3, true, NONE);
        x.step(0, 1, true, NONE);
        x.step(0, 2, true, NONE);
        x.step(0, 2, true, NONE);
        x.request(0, true, 50);
        x.pass(5);
        CHECK.due("all steps are done", x.requestState(0), BrambleMesh.OK);
        CHECK.due("four steps have begun", x.call(0, 6), 4);
        int[] services = {0, 3, 1, 2, 2};
        CHECK.due("calls", x.calls(), services.length);
        for (int i = 0; i < services.length; i++) {
            CHECK.due("service of call " + i, x.call(i, 0), services[i]);
        }
    }

    private static void promise4Instance() {
        BrambleMesh x = new BrambleMesh();
        CHECK.refused("instance: service -1", x, Check.NO_SUCH, () -> x.instance(-1, 0, 1, 1, 0, 0));
        CHECK.refused("instance: service 6", x, Check.NO_SUCH, () -> x.instance(6, 0, 1, 1, 0, 0));
        CHECK.refused("instance: zone -1", x, Check.BAD, () -> x.instance(0, -1, 1, 1, 0, 0));
        CHECK.refused("instance: zone 3", x, Check.BAD, () -> x.instance(0, 3, 1, 1, 0, 0));
        CHECK.refused("instance: weight 0", x, Check.BAD, () -> x.instance(0, 0, 0, 1, 0, 0));
        CHECK.refused("instance: weight 10", x, Check.BAD, () -> x.instance(0, 0, 10, 1, 0, 0));
        CHECK.refused("instance: slots 0", x, Check.BAD, () -> x.instance(0, 0, 1, 0, 0, 0));
        CHECK.refused("instance: slots 10", x, Check.BAD, () -> x.instance(0, 0, 1, 10, 0, 0));
        CHECK.refused("instance: queue -1", x, Check.BAD, () -> x.instance(0, 0, 1, 1, -1, 0));
        CHECK.refused("instance: queue 10", x, Check.BAD, () -> x.instance(0, 0, 1, 1, 10, 0));
        CHECK.refused("instance: version -1", x, Check.BAD, () -> x.instance(0, 0, 1, 1, 0, -1));
        CHECK.refused("instance: version 2", x, Check.BAD, () -> x.instance(0, 0, 1, 1, 0, 2));
        CHECK.refused("instance: all wrong", x, Check.NO_SUCH, () -> x.instance(6, 3, 0, 0, 10, 2));
        CHECK.due("the first", x.instance(0, 0, 1, 1, 0, 0), 0);
        CHECK.due("the second", x.instance(5, 2, 9, 9, 9, 1), 1);
        x.request(0, true, 5);
        for (int i = 2; i < 12; i++) {
            CHECK.due("also behind a request", x.instance(0, 0, 1, 1, 0, 0), i);
            CHECK.due("its load was told as 0", x.load(i, false), 0);
            CHECK.due("its breaker", x.breaker(CLIENT, i), BrambleMesh.CLOSED);
        }
        CHECK.refused("instance: a 13th", x, Check.NOT_NOW, () -> x.instance(0, 0, 1, 1, 0, 0));
        CHECK.refused("instance: a 13th out of range", x, Check.BAD, () -> x.instance(0, 0, 1, 1, 0, 2));
        CHECK.refused("instance: a 13th of no service", x, Check.NO_SUCH, () -> x.instance(-1, 0, 1, 1, 0, 2));
        for (int i = 0; i < 12; i++) {
            for (int what = 0; what <= 3; what++) {
                CHECK.due("without faults", x.fault(i, what, 0), 0);
            }
        }
    }

    private static void promise4SlotsAndQueue() {
        BrambleMesh x = new BrambleMesh();
        x.policy(ALL, ALL, BrambleMesh.RETRIES, 0);
        x.instance(0, 0, 1, 2, 3, 0);
        int[] states = {1, 1, 0, 0, 0, 6};
        for (int i = 0; i < states.length; i++) {
            x.request(0, true, 20);
            CHECK.due("slots and queue, call " + i, x.call(i, 2), states[i]);
        }
        CHECK.due("load", x.load(0, true), 5);
        CHECK.due("the one that is refused fails", x.requestState(5), BrambleMesh.FAILED);
        x.pass(1);
        int[] after = {3, 3, 1, 1, 0, 6};
        for (int i = 0; i < after.length; i++) {
            CHECK.due("a tick later, call " + i, x.call(i, 2), after[i]);
        }
        x.request(0, true, 20);
        CHECK.due("behind the queue", x.call(6, 2), BrambleMesh.QUEUED);
    }

    private static void promise5Fault() {
        BrambleMesh x = new BrambleMesh();
        CHECK.refused("fault: no instance", x, Check.NO_SUCH, () -> x.fault(0, 0, 0));
        x.instance(0, 0, 1, 1, 1, 0);
        for (int what = 0; what <= 3; what++) {
            int most = what == BrambleMesh.SLOW ? 50 : 1;
            int kind = what;
            CHECK.due("fault was 0", x.fault(0, what, most), 0);
            CHECK.due("fault was the most", x.fault(0, what, 1), most);
            CHECK.due("fault was 1", x.fault(0, what, 0), 1);
            CHECK.refused("fault: value -1", x, Check.BAD, () -> x.fault(0, kind, -1));
            CHECK.refused("fault: value above", x, Check.BAD, () -> x.fault(0, kind, most + 1));
            CHECK.due("nothing changed", x.fault(0, what, 0), 0);
        }
        CHECK.refused("fault: what -1", x, Check.BAD, () -> x.fault(0, -1, 0));
        CHECK.refused("fault: what 4", x, Check.BAD, () -> x.fault(0, 4, 0));
        CHECK.refused("fault: instance -1", x, Check.NO_SUCH, () -> x.fault(-1, 0, 0));
        CHECK.refused("fault: instance 1, and all wrong", x, Check.NO_SUCH, () -> x.fault(1, 4, 51));
    }

    private static void promise5WhatRunsOrIsQueuedGoesOn() {
        BrambleMesh x = new BrambleMesh();
        x.policy(ALL, ALL, BrambleMesh.RETRIES, 0);
        x.work(0, 2);
        x.instance(0, 0, 1, 1, 1, 0);
        x.request(0, true, 20);
        x.request(0, true, 20);
        x.fault(0, BrambleMesh.DOWN, 1);
        x.fault(0, BrambleMesh.SLOW, 2);
        x.request(0, true, 20);
        CHECK.due("DOWN refuses", x.call(2, 2), BrambleMesh.REFUSED);
        x.pass(2);
        CHECK.due("what runs goes on, and is not slow", x.call(0, 2), BrambleMesh.OK);
        CHECK.due("what is queued runs", x.call(1, 2), BrambleMesh.RUNNING);
        x.pass(3);
        CHECK.due("but slow", x.call(1, 2), BrambleMesh.RUNNING);
        x.fault(0, BrambleMesh.WRONG, 1);
        x.pass(1);
        CHECK.due("and wrong, as its work is done", x.call(1, 2), BrambleMesh.FAILED);
    }

    private static void promise6Policy() {
        BrambleMesh x = new BrambleMesh();
        int[] least = {1, 0, 0};
        int[] most = {100, 3, 50};
        int[][] places = {{ALL, ALL}, {ALL, 0}, {ALL, 5}, {0, 0}, {0, 5}, {CLIENT, 0}, {6, 5}, {5, 0}};
        for (int part = 0; part <= 2; part++) {
            for (int[] place : places) {
                int caller = place[0];
                int service = place[1];
                int kind = part;
                CHECK.due("nothing was told", x.policy(caller, service, part, least[part]), NONE);
                CHECK.due("the least was told", x.policy(caller, service, part, most[part]), least[part]);
                CHECK.refused("policy: too little", x, Check.BAD, () -> x.policy(caller, service, kind, least[kind] - 1));
                CHECK.refused("policy: too much", x, Check.BAD, () -> x.policy(caller, service, kind, most[kind] + 1));
                CHECK.due("the most was told", x.policy(caller, service, part, 2), most[part]);
            }
        }
        CHECK.due("for all", x.policy(ALL, ALL, 0, 3), 2);
        CHECK.due("for a service", x.policy(ALL, 0, 0, 4), 2);
        CHECK.due("for a caller and a service", x.policy(CLIENT, 0, 0, 5), 2);
        CHECK.due("for all again", x.policy(ALL, ALL, 0, 3), 3);
        CHECK.due("for a service again", x.policy(ALL, 0, 0, 3), 4);
        CHECK.due("another service", x.policy(ALL, 1, 0, 3), NONE);
        CHECK.refused("policy: caller -2", x, Check.NO_SUCH, () -> x.policy(-2, 0, 0, 5));
        CHECK.refused("policy: caller 7", x, Check.NO_SUCH, () -> x.policy(7, 0, 0, 5));
        CHECK.refused("policy: service -2", x, Check.NO_SUCH, () -> x.policy(0, -2, 0, 5));
        CHECK.refused("policy: service 6", x, Check.NO_SUCH, () -> x.policy(ALL, 6, 0, 5));
        CHECK.refused("policy: a caller without a service", x, Check.BAD, () -> x.policy(0, ALL, 0, 5));
        CHECK.refused("policy: no such caller without a service", x, Check.NO_SUCH, () -> x.policy(7, ALL, 0, 5));
        CHECK.refused("policy: part -1", x, Check.BAD, () -> x.policy(0, 0, -1, 1));
        CHECK.refused("policy: part 3", x, Check.BAD, () -> x.policy(0, 0, 3, 1));
        CHECK.refused("policy: all wrong", x, Check.NO_SUCH, () -> x.policy(0, 6, 3, 101));
    }

    /** The deadline of a call of the CLIENT, made now. */
    private static int deadlineOfNext(BrambleMesh x) {
        x.request(0, true, 200);
        return x.call(x.calls() - 1, 3);
    }

    private static void promise6TheClosestKindCounts() {
        BrambleMesh x = new BrambleMesh();
        x.instance(0, 0, 1, 9, 9, 0);
        x.instance(1, 0, 1, 9, 9, 0);
        x.step(0, 1, true, NONE);
        CHECK.due("the timeout at first", deadlineOfNext(x), 20);
        x.policy(ALL, 0, BrambleMesh.TIMEOUT, 30);
        CHECK.due("for a service", deadlineOfNext(x), 30);
        x.policy(ALL, ALL, BrambleMesh.TIMEOUT, 40);
        CHECK.due("for all, told later, does not count", deadlineOfNext(x), 30);
        x.policy(CLIENT, 0, BrambleMesh.TIMEOUT, 50);
        CHECK.due("for a caller and a service", deadlineOfNext(x), 50);
        x.policy(ALL, 0, BrambleMesh.TIMEOUT, 60);
        CHECK.due("for a service, told later, does not count", deadlineOfNext(x), 50);
        x.policy(0, 0, BrambleMesh.TIMEOUT, 7);
        x.policy(CLIENT, 1, BrambleMesh.TIMEOUT, 8);
        CHECK.due("of others does not count", deadlineOfNext(x), 50);
        x.policy(0, 1, BrambleMesh.TIMEOUT, 9);
        x.pass(1);
        CHECK.due("of a service that calls", x.call(x.calls() - 1, 3), 10);
        CHECK.due("deadlines of calls that were made stay", x.call(0, 3), 20);
        BrambleMesh y = new BrambleMesh();
        y.instance(0, 0, 1, 9, 9, 0);
        y.policy(ALL, ALL, BrambleMesh.TIMEOUT, 100);
        CHECK.due("for all", deadlineOfNext(y), 100);
        y.request(0, true, 99);
        CHECK.due("the deadline of the request, if it is earlier", y.call(1, 3), 99);
    }

    private static void promise7Share() {
        BrambleMesh x = new BrambleMesh();
        for (int caller = 0; caller <= 6; caller++) {
            CHECK.due("share is 10 at first", x.share(caller, 0), 10);
            CHECK.due("share was 0", x.share(caller, 100), 0);
            CHECK.due("share was 100", x.share(caller, 10), 100);
        }
        CHECK.refused("share: caller -1", x, Check.NO_SUCH, () -> x.share(-1, 1));
        CHECK.refused("share: caller 7", x, Check.NO_SUCH, () -> x.share(7, 101));
        CHECK.refused("share: -1", x, Check.BAD, () -> x.share(0, -1));
        CHECK.refused("share: 101", x, Check.BAD, () -> x.share(0, 101));
        CHECK.due("share: nothing changed", x.share(0, 10), 10);
        x.share(CLIENT, 37);
        x.request(0, true, 5);
        CHECK.due("at most 1000, then a retry takes 100", x.budget(CLIENT), 900);
        x.policy(ALL, ALL, BrambleMesh.RETRIES, 0);
        x.request(0, true, 5);
        CHECK.due("a first try adds the share", x.budget(CLIENT), 937);
        x.share(CLIENT, 0);
        x.request(0, true, 5);
        CHECK.due("a share of 0", x.budget(CLIENT), 937);
        x.share(CLIENT, 100);
        x.request(0, true, 5);
        CHECK.due("at most 1000", x.budget(CLIENT), 1000);
    }

    private static void promise8Eyes() {
        BrambleMesh x = new BrambleMesh();
        CHECK.due("eyes are 3 at first", x.eyes(1), 3);
        CHECK.due("eyes were 1", x.eyes(7), 1);
        CHECK.due("eyes were 7", x.eyes(2), 7);
        CHECK.refused("eyes: 0", x, Check.BAD, () -> x.eyes(0));
        CHECK.refused("eyes: 8", x, Check.BAD, () -> x.eyes(8));
        CHECK.due("eyes: nothing changed", x.eyes(3), 2);
    }

    private static void promise9Canary() {
        BrambleMesh x = new BrambleMesh();
        for (int service = 0; service <= 5; service++) {
            CHECK.due("canary is 0 at first", x.canary(service, 100), 0);
            CHECK.due("canary was 100", x.canary(service, service), 100);
        }
        for (int service = 0; service <= 5; service++) {
            CHECK.due("each service has its own", x.canaryShare(service), service);
        }
        CHECK.refused("canary: service -1", x, Check.NO_SUCH, () -> x.canary(-1, 0));
        CHECK.refused("canary: service 6", x, Check.NO_SUCH, () -> x.canary(6, 101));
        CHECK.refused("canary: -1", x, Check.BAD, () -> x.canary(0, -1));
        CHECK.refused("canary: 101", x, Check.BAD, () -> x.canary(0, 101));
    }

    private static void promise10Traces() {
        BrambleMesh x = new BrambleMesh();
        x.instance(0, 0, 1, 9, 9, 0);
        for (int i = 0; i < 6; i++) {
            x.request(0, true, 20);
        }
        CHECK.due("rate 4 at first", x.isKept(0) && x.isKept(4) && !x.isKept(2) && !x.isKept(5), true);
        CHECK.refused("traces: rate 0", x, Check.BAD, () -> x.traces(0, 1));
        CHECK.refused("traces: rate 11", x, Check.BAD, () -> x.traces(11, 1));
        CHECK.refused("traces: limit 0", x, Check.BAD, () -> x.traces(1, 0));
        CHECK.refused("traces: limit 601", x, Check.BAD, () -> x.traces(1, 601));
        x.traces(10, 600);
        CHECK.due("rate 10", x.isKept(0) && !x.isKept(4) && !x.isKept(5), true);
        x.traces(1, 1);
        CHECK.due("rate 1", x.isKept(0) && x.isKept(3) && x.isKept(5), true);
        x.traces(2, 1);
        CHECK.due("rate 2", x.isKept(0) && !x.isKept(3) && x.isKept(4), true);
    }

    public static void main(String[] args) {
        promise1ANewObject();
        promise2Work();
        promise2WorkTakesTicks();
        promise2WorkForCallsThatBeginFromNowOn();
        promise3Step();
        promise3StepsAreTakenInOrder();
        promise4Instance();
        promise4SlotsAndQueue();
        promise5Fault();
        promise5WhatRunsOrIsQueuedGoesOn();
        promise6Policy();
        promise6TheClosestKindCounts();
        promise7Share();
        promise8Eyes();
        promise9Canary();
        promise10Traces();
        CHECK.end();
    }
}
