/** What there is at most, and at the least: ticks, steps, instances, requests, calls, repairs, slots, queues, budgets, policies. */
public final class EdgesOfLimitsTest {
    private static final int ALL = BrambleMesh.NONE;
    private static final int NONE = BrambleMesh.NONE;
    private static final int CLIENT = BrambleMesh.CLIENT;
    private static final int TIMEOUT = BrambleMesh.TIMEOUT, RETRIES = BrambleMesh.RETRIES, HEDGE = BrambleMesh.HEDGE;
    private static final int RUNNING = BrambleMesh.RUNNING, QUEUED = BrambleMesh.QUEUED, OK = BrambleMesh.OK;
    private static final int FAILED = BrambleMesh.FAILED, REFUSED = BrambleMesh.REFUSED, GOING = BrambleMesh.GOING;
    private static final Check CHECK = new Check();

    /** An instance with many slots in each of the services 0 to 5, and no retries. */
    private static BrambleMesh wideMesh() {
        BrambleMesh x = new BrambleMesh();
        x.policy(ALL, ALL, RETRIES, 0);
        for (int service = 0; service <= 5; service++) {
            x.instance(service, 0, 1, 9, 9, 0);
        }
        return x;
    }

    // ---- ticks

    private static void theTick() {
        CHECK.sentence(13, "The tick is 0 at first, and at most 600.");
        BrambleMesh x = new BrambleMesh();
        CHECK.due("at first", x.tick(), 0);
        for (int i = 1; i <= 12; i++) {
            CHECK.due("by 50", x.pass(50), 50 * i);
            CHECK.due("asked", x.tick(), 50 * i);
        }
        CHECK.refused("601", x, Check.NOT_NOW, () -> x.pass(1));
        CHECK.sentence(12, "Throws IllegalStateException if the tick would be above 600");
        for (int left = 1; left <= 50; left++) {
            BrambleMesh y = new BrambleMesh();
            for (int i = 0; i < 11; i++) {
                y.pass(50);
            }
            if (left < 50) {
                y.pass(50 - left);
            }
            int most = left;
            if (left < 50) {
                CHECK.refused("one too many of " + left, y, Check.NOT_NOW, () -> y.pass(most + 1));
                CHECK.refused("50, with less left", y, Check.NOT_NOW, () -> y.pass(50));
            }
            CHECK.due("just as many as are left", y.pass(left), 600);
            CHECK.refused("none is left", y, Check.NOT_NOW, () -> y.pass(1));
        }
    }

    private static void atTheLastTick() {
        CHECK.sentence(12, "Lets ticks pass. Returns the tick then.");
        BrambleMesh x = wideMesh();
        for (int i = 0; i < 12; i++) {
            x.pass(i < 11 ? 50 : 49);
        }
        x.request(0, true, 200);
        CHECK.due("599 and 1", x.pass(1), 600);
        CHECK.due("the last tick is one like others", x.requestState(0), OK);
        CHECK.due("its load is told in it", x.load(0, false), 0);
        CHECK.sentence(11, "Makes a request.");
        CHECK.due("also at tick 600", x.request(0, true, 200), 1);
        CHECK.due("its deadline", x.call(1, 3), 620);
        CHECK.due("it is going", x.requestState(1), GOING);
        CHECK.due("for no tick", x.requestTicks(1), 0);
    }

    // ---- services, steps, instances

    private static void work() {
        CHECK.sentence(2, "A service has a work, 1 tick at first");
        BrambleMesh x = new BrambleMesh();
        for (int service = 0; service <= 5; service++) {
            CHECK.due("at first", x.work(service, 50 - service), 1);
        }
        CHECK.sentence(2, "Returns what it was.");
        for (int service = 0; service <= 5; service++) {
            CHECK.due("of each service its own", x.work(service, 0), 50 - service);
            CHECK.due("0", x.work(service, 7), 0);
        }
    }

    /** Of each instance, fault, caller and service its own; what is set twice the same was that. */
    private static void whatItWas() {
        CHECK.sentence(5, "fault: Returns what it was. (without faults at first)");
        BrambleMesh x = new BrambleMesh();
        for (int i = 0; i < 12; i++) {
            x.instance(i % 6, 0, 1, 1, 0, 0);
        }
        for (int round = 0; round < 3; round++) {
            for (int i = 0; i < 12; i++) {
                for (int what = BrambleMesh.SLOW; what <= BrambleMesh.DOWN; what++) {
                    int value = what == BrambleMesh.SLOW ? 50 - i : (i + what) % 2;
                    CHECK.due("fault " + what + " of " + i, x.fault(i, what, value), round == 0 ? 0 : value);
                }
            }
        }
        CHECK.sentence(7, "share: Returns what it was. (10 at first)");
        for (int round = 0; round < 3; round++) {
            for (int caller = 0; caller <= 6; caller++) {
                CHECK.due("of caller " + caller, x.share(caller, 100 - caller), round == 0 ? 10 : 100 - caller);
            }
        }
        CHECK.sentence(8, "eyes: Returns what it was. (3 at first)");
        int was = 3;
        for (int eyes = 1; eyes <= 7; eyes++) {
            CHECK.due("told " + eyes, x.eyes(eyes), was);
            was = eyes;
        }
        CHECK.sentence(9, "canary: Returns what it was. (0 at first)");
        for (int round = 0; round < 3; round++) {
            for (int service = 0; service <= 5; service++) {
                CHECK.due("asked, of " + service, x.canaryShare(service), round == 0 ? 0 : 100 - service);
                CHECK.due("of service " + service, x.canary(service, 100 - service), round == 0 ? 0 : 100 - service);
            }
        }
    }

    private static void steps() {
        CHECK.sentence(3, "Returns how many it has then. (a plan, up to 4 steps)");
        BrambleMesh x = new BrambleMesh();
        for (int service = 0; service <= 4; service++) {
            int full = service;
            for (int i = 1; i <= 4; i++) {
                CHECK.due("steps of " + service, x.step(service, 5, i % 2 == 0, i % 3 == 0 ? 5 : NONE), i);
            }
            CHECK.refused("a fifth of " + service, x, Check.NOT_NOW, () -> x.step(full, 5, true, NONE));
        }
        CHECK.sentence(3, "Throws IllegalStateException if there are 4, or a request was made");
        BrambleMesh y = new BrambleMesh();
        y.step(0, 1, true, NONE);
        y.request(5, true, 1);
        CHECK.due("the request has failed at once", y.requestState(0), FAILED);
        CHECK.refused("it was made", y, Check.NOT_NOW, () -> y.step(0, 1, true, NONE));
        CHECK.refused("for all services", y, Check.NOT_NOW, () -> y.step(4, 5, true, NONE));
        y.pass(9);
        CHECK.refused("and for ever", y, Check.NOT_NOW, () -> y.step(0, 1, true, NONE));
        BrambleMesh z = new BrambleMesh();
        z.pass(9);
        CHECK.due("ticks that pass are no request", z.step(0, 1, true, NONE), 1);
    }

    /** A plan of as many steps as there can be is gone through, each step once. */
    private static void plansOfEachLength() {
        CHECK.sentence(3, "Puts a step at the end of the plan of a service.");
        for (int planned = 0; planned <= 4; planned++) {
            BrambleMesh x = wideMesh();
            for (int i = 0; i < planned; i++) {
                x.step(0, 5 - i, true, NONE);
            }
            x.request(0, true, 50);
            x.pass(planned == 0 ? 1 : planned);
            if (planned > 0) {
                CHECK.due("not ahead of the last step of " + planned, x.requestState(0), GOING);
                x.pass(1);
            }
            CHECK.due("OK behind " + planned + " steps", x.requestState(0), OK);
            CHECK.due("steps that have begun", x.call(0, 6), planned);
            CHECK.due("calls", x.calls(), 1 + planned);
            for (int i = 0; i < planned; i++) {
                CHECK.due("in their order", x.call(1 + i, 0), 5 - i);
            }
        }
    }

    private static void instances() {
        CHECK.sentence(4, "Instances are numbered from 0, at most 12. Throws IllegalStateException if there are 12");
        BrambleMesh x = new BrambleMesh();
        for (int i = 0; i < 12; i++) {
            CHECK.due("number", x.instance(i % 6, i % 3, 1 + i % 9, 1 + i % 9, i % 10, i % 2), i);
        }
        for (int service = 0; service <= 5; service++) {
            int of = service;
            CHECK.refused("a 13th", x, Check.NOT_NOW, () -> x.instance(of, 0, 1, 1, 0, 0));
        }
        CHECK.sentence(4, "Makes an instance, without faults, whose load was told as 0.");
        for (int i = 0; i < 12; i++) {
            CHECK.due("told", x.load(i, false), 0);
            CHECK.due("now", x.load(i, true), 0);
            for (int what = 0; what <= 3; what++) {
                CHECK.due("fault", x.fault(i, what, 0), 0);
            }
        }
        BrambleMesh y = new BrambleMesh();
        y.instance(0, 0, 1, 9, 0, 0);
        y.policy(CLIENT, 0, TIMEOUT, 50);
        y.work(0, 20);
        y.request(0, true, 50);
        y.pass(7);
        CHECK.due("one that is old", y.load(0, false), 1);
        y.instance(0, 0, 1, 9, 0, 0);
        CHECK.due("one that is new, told", y.load(1, false), 0);
        y.request(0, true, 50);
        CHECK.due("it is chosen by that", y.call(1, 1), 1);
    }

    // ---- requests and calls

    private static void requests() {
        CHECK.sentence(11, "Requests are numbered from 0, at most 40. Throws IllegalStateException if there are 40");
        BrambleMesh x = wideMesh();
        for (int i = 0; i < 40; i++) {
            CHECK.due("number", x.request(i % 6, i % 2 == 0, 20 + i), i);
        }
        CHECK.refused("a 41st", x, Check.NOT_NOW, () -> x.request(0, true, 5));
        CHECK.refused("a 41st of another service", x, Check.NOT_NOW, () -> x.request(5, false, 5));
        x.pass(50);
        for (int i = 0; i < 40; i++) {
            CHECK.due("all have ended", x.requestState(i), OK);
        }
        CHECK.refused("a 41st behind the ends of all", x, Check.NOT_NOW, () -> x.request(0, true, 5));
    }

    /** 399 calls, as 19 requests of 21 calls each; the services 0, 1 and 2 have an instance each, 3 one that has no call yet. */
    private static BrambleMesh meshOf399Calls() {
        BrambleMesh x = new BrambleMesh();
        x.policy(ALL, ALL, TIMEOUT, 100);
        x.policy(ALL, ALL, RETRIES, 0);
        for (int service = 0; service <= 3; service++) {
            x.instance(service, 0, 9, 9, 9, 0);
        }
        for (int i = 0; i < 4; i++) {
            x.step(0, 1, true, 3);
            x.step(1, 2, true, NONE);
        }
        for (int i = 0; i < 19; i++) {
            x.request(0, true, 200);
            x.pass(20);
        }
        CHECK.due("399 calls", x.calls(), 399);
        return x;
    }

    private static void calls() {
        CHECK.sentence(18, "Calls are numbered from 0, at most 400");
        BrambleMesh x = meshOf399Calls();
        x.request(3, true, 20);
        CHECK.due("the 400th", x.calls(), 400);
        CHECK.due("its number", x.call(399, 0), 3);
        CHECK.refused("there is no call 400", x, Check.NO_SUCH, () -> x.call(400, 0));
        x.request(3, true, 20);
        CHECK.due("no 401st", x.calls(), 400);
        CHECK.sentence(11, "when there are 400 calls, it is REFUSED, and known as that, without a call.");
        CHECK.due("the request fails at once", x.requestState(20), FAILED);
        CHECK.due("in no tick", x.requestTicks(20), 0);
        CHECK.due("without a call", x.callsOf(20), 0);
        CHECK.due("the load is as it was", x.load(3, true), 1);
        CHECK.sentence(27, "Returns how many first tries a caller has made (those without a call are tries as well)");
        CHECK.due("first tries", x.first(CLIENT), 21);
        CHECK.sentence(26, "Returns how many retries and hedges a caller has made (those without a call are tries as well)");
        x.policy(ALL, ALL, RETRIES, 3);
        x.request(3, false, 20);
        CHECK.due("retries, as the end is REFUSED", x.extra(CLIENT), 3);
        CHECK.due("which take 100 each", x.budget(CLIENT), 700);
        x.pass(1);
        CHECK.due("the 400th goes on", x.requestState(19), OK);
    }

    /** A step of a call, a hedge and a repair when there are 400 calls. */
    private static void stepsWithoutCalls() {
        CHECK.sentence(19, "when there are 400 calls, it is REFUSED, and known as that, without a call (a step of a call).");
        BrambleMesh x = meshOf399Calls();
        x.request(0, true, 90);
        x.pass(1);
        CHECK.due("the step fails at once", x.call(399, 2), FAILED);
        CHECK.due("it has begun", x.call(399, 6), 1);
        CHECK.due("the request fails by that", x.requestState(19), FAILED);
        CHECK.due("one call", x.callsOf(19), 1);
        CHECK.due("no repair: no call of the step has run", x.repairs(false), 0);
        CHECK.sentence(26, "when there are 400 calls, it is REFUSED, and known as that, without a call (a hedge).");
        BrambleMesh y = meshOf399Calls();
        y.policy(CLIENT, 3, HEDGE, 1);
        y.work(3, 5);
        y.request(3, true, 90);
        y.pass(4);
        CHECK.due("one hedge, without a call", y.extra(CLIENT), 1);
        CHECK.due("which takes 100", y.budget(CLIENT), 900);
        CHECK.due("the first try goes on", y.call(399, 2), RUNNING);
        y.pass(1);
        CHECK.due("and is OK", y.requestState(19), OK);
        CHECK.sentence(25, "when there are 400 calls, it is REFUSED, and known as that, without a call (a repair).");
        BrambleMesh z = meshOfRepairsWithoutCalls();
        CHECK.due("a repair", z.repairs(false), 1);
        z.pass(50);
        CHECK.due("it is not made", z.repairs(true), 0);
        CHECK.due("400 calls", z.calls(), 400);
    }

    /** The last call, of service 1, runs as the call that it is of ends. */
    private static BrambleMesh meshOfRepairsWithoutCalls() {
        BrambleMesh x = new BrambleMesh();
        x.policy(ALL, ALL, TIMEOUT, 100);
        x.policy(ALL, ALL, RETRIES, 0);
        for (int service = 0; service <= 3; service++) {
            x.instance(service, 0, 9, 9, 9, 0);
        }
        for (int i = 0; i < 4; i++) {
            x.step(0, 1, true, 3);
            x.step(1, 2, true, NONE);
        }
        for (int i = 0; i < 18; i++) {
            x.request(0, true, 200);
            x.pass(20);
        }
        for (int i = 0; i < 20; i++) {
            x.request(3, true, 20);
        }
        x.pass(9);
        CHECK.due("398 calls", x.calls(), 398);
        x.request(0, true, 9);
        x.work(1, 20);
        x.pass(9);
        CHECK.due("400 calls", x.calls(), 400);
        return x;
    }

    /** Three for each request, as its call is LATE in its fourth step; nothing can undo them yet. */
    private static void repairs() {
        CHECK.sentence(25, "there is a repair, as long as there are fewer than 100");
        BrambleMesh x = new BrambleMesh();
        for (int service = 0; service <= 2; service++) {
            x.instance(service, 0, 1, 9, 9, 0);
        }
        x.step(0, 1, false, 3);
        x.step(0, 1, false, 4);
        x.step(0, 1, false, 5);
        x.step(0, 2, false, NONE);
        for (int i = 1; i <= 36; i++) {
            x.request(0, false, 5);
            x.pass(5);
            CHECK.due("behind request " + i, x.repairs(false), Math.min(100, 3 * i));
        }
        CHECK.due("none is made", x.repairs(true), 0);
        int calls = x.calls();
        CHECK.sentence(25, "for each of its steps, from the latest one backwards .. as long as there are fewer than 100");
        for (int i = 0; i < 9; i++) {
            x.instance(3 + i % 3, 0, 1, 9, 9, 0);
        }
        x.pass(1);
        CHECK.due("a try for each", x.calls(), calls + 100);
        for (int i = 0; i < 100; i++) {
            CHECK.due("by rising numbers", x.call(calls + i, 7), i);
            CHECK.due("5, 4, 3 for each request, and 5 for the last one", x.call(calls + i, 0), 5 - i % 3);
        }
        x.pass(30);
        CHECK.due("all are made", x.repairs(true), 100);
        CHECK.due("no more than 100", x.repairs(false), 100);
    }

    // ---- slots and queues

    /** As many calls as this run, as many are queued, and the next one is refused. */
    private static void fill(int slots, int queue) {
        BrambleMesh x = new BrambleMesh();
        x.policy(ALL, ALL, RETRIES, 0);
        x.work(0, 3);
        x.instance(0, 0, 1, slots, queue, 0);
        for (int i = 0; i < slots + queue + 1; i++) {
            x.request(0, true, 40);
            int due = i < slots ? RUNNING : i < slots + queue ? QUEUED : REFUSED;
            CHECK.due(slots + " slots, queue " + queue + ", call " + i, x.call(i, 2), due);
        }
        CHECK.due("the load", x.load(0, true), slots + queue);
        CHECK.due("the request that is refused fails at once", x.requestState(slots + queue), FAILED);
        x.pass(3);
        CHECK.due("the queue goes on", x.load(0, true), queue);
        int running = 0;
        for (int i = slots; i < slots + queue; i++) {
            running += x.call(i, 2) == RUNNING ? 1 : 0;
            CHECK.due("in its order, call " + i, x.call(i, 2), i < 2 * slots ? RUNNING : QUEUED);
        }
        CHECK.due("as long as there is a slot", running, Math.min(slots, queue));
    }

    private static void slotsAndQueues() {
        CHECK.sentence(4, "it runs, if there is a slot; otherwise it is queued, if there is room; otherwise it ends at once, REFUSED");
        for (int slots = 1; slots <= 9; slots++) {
            for (int queue = 0; queue <= 9; queue++) {
                fill(slots, queue);
            }
        }
    }

    private static void slotsOfThoseThatCall() {
        CHECK.sentence(4, "A call that runs, or is calling, has a slot.");
        for (int queue = 0; queue <= 1; queue++) {
            BrambleMesh x = new BrambleMesh();
            x.policy(ALL, ALL, RETRIES, 0);
            x.instance(0, 0, 1, 1, queue, 0);
            x.instance(1, 0, 1, 9, 0, 0);
            x.step(0, 1, true, NONE);
            x.work(1, 4);
            x.request(0, true, 40);
            x.pass(3);
            CHECK.due("CALLING", x.call(0, 2), BrambleMesh.CALLING);
            x.request(0, true, 40);
            CHECK.due("no slot", x.call(2, 2), queue == 0 ? REFUSED : QUEUED);
            x.pass(1);
            CHECK.due("still none", x.call(2, 2), queue == 0 ? REFUSED : QUEUED);
            x.pass(1);
            CHECK.due("OK", x.call(0, 2), OK);
            x.request(0, true, 40);
            CHECK.due("a slot, unless the queue has it", x.call(3, 2), queue == 0 ? RUNNING : QUEUED);
        }
    }

    /** A slot that got free in 2 stands open till 6, while one is queued. */
    private static void nothingIsQueued() {
        CHECK.sentence(4, "it runs, if there is a slot and nothing is queued; otherwise it is queued, if there is room");
        CHECK.due("room for the one behind", stateOfRetryBehindQueue(2), QUEUED);
        CHECK.sentence(4, "otherwise it ends at once, REFUSED (a slot is free, but the queue is full)");
        CHECK.due("no room", stateOfRetryBehindQueue(1), REFUSED);
        CHECK.sentence(4, "it runs, if there is a slot and nothing is queued (the slot has got free in the same tick)");
        CHECK.due("nothing is queued", stateOfRetryBehindQueue(0), RUNNING);
    }

    /** Call 0 is LATE in tick 3, with call 1 in the queue if there is room for one; then call 0's request tries again. */
    private static int stateOfRetryBehindQueue(int room) {
        BrambleMesh x = new BrambleMesh();
        x.instance(0, 0, 1, 1, room, 0);
        x.work(0, 9);
        x.policy(ALL, ALL, RETRIES, 1);
        x.policy(CLIENT, 0, TIMEOUT, 3);
        x.request(0, true, 40);
        if (room > 0) {
            x.policy(CLIENT, 0, TIMEOUT, 30);
            x.request(0, true, 40);
        }
        x.policy(CLIENT, 0, TIMEOUT, 20);
        x.pass(3);
        CHECK.due("LATE", x.call(0, 2), BrambleMesh.LATE);
        return x.call(room > 0 ? 2 : 1, 2);
    }

    private static void down() {
        CHECK.sentence(5, "If its instance is DOWN, it ends at once, REFUSED");
        BrambleMesh x = new BrambleMesh();
        x.policy(ALL, ALL, RETRIES, 0);
        x.instance(0, 0, 1, 1, 1, 0);
        x.fault(0, BrambleMesh.DOWN, 1);
        x.request(0, true, 9);
        CHECK.due("though there is a slot", x.call(0, 2), REFUSED);
        CHECK.due("it has no slot", x.load(0, true), 0);
        x.fault(0, BrambleMesh.DOWN, 0);
        x.request(0, true, 9);
        CHECK.due("not any more", x.call(1, 2), RUNNING);
        x.fault(0, BrambleMesh.DOWN, 1);
        x.request(0, true, 9);
        CHECK.due("though there is room", x.call(2, 2), REFUSED);
        CHECK.sentence(5, "Tells a fault of an instance; what runs or is queued goes on.");
        BrambleMesh y = new BrambleMesh();
        y.instance(0, 0, 1, 1, 1, 0);
        y.request(0, true, 9);
        y.request(0, true, 9);
        y.fault(0, BrambleMesh.DOWN, 1);
        CHECK.due("at once, it runs", y.call(0, 2), RUNNING);
        CHECK.due("at once, it is queued", y.call(1, 2), QUEUED);
        y.pass(1);
        CHECK.due("what ran is OK", y.requestState(0), OK);
        CHECK.due("what was queued runs", y.call(1, 2), RUNNING);
        y.pass(1);
        CHECK.due("and is OK", y.requestState(1), OK);
    }

    // ---- budgets

    /** A budget of 100 less this, by refused requests with one retry each. */
    private static BrambleMesh meshWithBudget(int left) {
        BrambleMesh x = new BrambleMesh();
        x.share(CLIENT, 0);
        for (int i = 0; i < 10; i++) {
            x.request(5, true, 5);
        }
        CHECK.due("nothing is left", x.budget(CLIENT), 0);
        x.policy(CLIENT, 5, RETRIES, 0);
        x.share(CLIENT, left);
        x.request(5, true, 5);
        CHECK.due("the budget", x.budget(CLIENT), left);
        x.share(CLIENT, 0);
        x.policy(CLIENT, 5, RETRIES, 3);
        return x;
    }

    private static void budgetsForRetries() {
        CHECK.sentence(26, "there is a retry, if .. the budget has 100 or more; otherwise the step fails");
        BrambleMesh x = meshWithBudget(100);
        x.request(5, true, 5);
        CHECK.due("100 are enough for one retry", x.extra(CLIENT), 11);
        CHECK.due("0 are left", x.budget(CLIENT), 0);
        BrambleMesh y = meshWithBudget(99);
        y.request(5, true, 5);
        CHECK.due("99 are too few", y.extra(CLIENT), 10);
        CHECK.due("they are left", y.budget(CLIENT), 99);
        CHECK.due("the step fails", y.requestState(11), FAILED);
        CHECK.sentence(20, "each first try adds its share; each retry and each hedge takes 100.");
        y.share(CLIENT, 1);
        y.request(5, true, 5);
        CHECK.due("99 and the share of the first try are enough", y.extra(CLIENT), 11);
        CHECK.due("0 are left of 100", y.budget(CLIENT), 0);
        y.request(5, true, 5);
        CHECK.due("the share alone", y.budget(CLIENT), 1);
    }

    private static void budgetsForHedges() {
        CHECK.sentence(26, "A hedge: if .. the budget has 100 or more, there is another try beside it.");
        for (int budget : new int[] {99, 100}) {
            BrambleMesh x = meshWithBudget(budget);
            x.instance(0, 0, 1, 9, 0, 0);
            x.work(0, 9);
            x.policy(CLIENT, 0, HEDGE, 2);
            x.request(0, true, 40);
            x.pass(5);
            CHECK.due("a hedge with " + budget, x.calls(), budget == 100 ? 2 : 1);
            CHECK.due("the budget behind " + budget, x.budget(CLIENT), budget == 100 ? 0 : 99);
            CHECK.due("extra behind " + budget, x.extra(CLIENT), budget == 100 ? 11 : 10);
        }
    }

    private static void budgetsAtMost1000() {
        CHECK.sentence(20, "Each caller has a budget, 1000 at first, at most 1000");
        BrambleMesh x = wideMesh();
        for (int caller = 0; caller <= 6; caller++) {
            CHECK.due("at first", x.budget(caller), 1000);
        }
        x.request(0, true, 9);
        CHECK.due("not above 1000", x.budget(CLIENT), 1000);
        x.policy(CLIENT, 0, RETRIES, 1);
        x.fault(0, BrambleMesh.DOWN, 1);
        x.request(0, true, 9);
        CHECK.due("a retry from 1000", x.budget(CLIENT), 900);
        x.share(CLIENT, 99);
        x.request(1, true, 9);
        CHECK.due("999", x.budget(CLIENT), 999);
        x.share(CLIENT, 1);
        x.request(1, true, 9);
        CHECK.due("just 1000", x.budget(CLIENT), 1000);
        x.share(CLIENT, 100);
        x.request(1, true, 9);
        CHECK.due("and no more", x.budget(CLIENT), 1000);
        CHECK.sentence(7, "each first try adds its share, 10 at first (0 to 100)");
        BrambleMesh y = meshWithBudget(50);
        y.policy(CLIENT, 5, RETRIES, 0);
        y.request(5, true, 5);
        CHECK.due("a share of 0 adds nothing", y.budget(CLIENT), 50);
        y.share(CLIENT, 100);
        y.request(5, true, 5);
        CHECK.due("a share of 100", y.budget(CLIENT), 150);
        CHECK.due("of the CLIENT alone", y.share(0, 5), 10);
    }

    // ---- policies

    /** Each of the 49 places of each part is one by itself: what is told in one stands in no other. */
    private static void placesOfPolicies() {
        CHECK.sentence(6, "Returns what was told there before; NONE if nothing was.");
        BrambleMesh x = new BrambleMesh();
        for (int round = 0; round < 2; round++) {
            int place = 0;
            for (int service = NONE; service <= 5; service++) {
                for (int caller = NONE; caller <= (service == NONE ? NONE : 6); caller++) {
                    for (int part = TIMEOUT; part <= HEDGE; part++) {
                        int value = part == RETRIES ? place % 4 : 1 + place;
                        int due = round == 0 ? NONE : value;
                        CHECK.due("caller " + caller + ", service " + service, x.policy(caller, service, part, value), due);
                    }
                    place++;
                }
            }
            CHECK.due("places", place, 49);
        }
    }

    private static void policiesAtFirst() {
        CHECK.sentence(6, "Policies: a timeout, 20 ticks at first, retries, 1 at first, and a hedge, 0 (none) at first");
        BrambleMesh x = new BrambleMesh();
        x.instance(0, 0, 1, 9, 0, 0);
        x.work(0, 50);
        x.request(0, true, 100);
        CHECK.due("the timeout", x.call(0, 3), 20);
        x.pass(19);
        CHECK.due("no hedge", x.calls(), 1);
        x.pass(1);
        CHECK.due("a retry at 20", x.calls(), 2);
        x.pass(20);
        CHECK.due("no second one", x.calls(), 2);
        CHECK.due("FAILED behind one", x.requestState(0), FAILED);
        CHECK.due("in 40 ticks", x.requestTicks(0), 40);
    }

    /** What is told for all three kinds, in any order: the last kind counts; if it is not told, the one ahead. */
    private static void kindsOfPolicies() {
        CHECK.sentence(6, "of these three kinds the last one that is told at all counts, whenever that was");
        for (int told = 0; told < 8; told++) {
            for (int order = 0; order < 2; order++) {
                BrambleMesh x = new BrambleMesh();
                x.instance(0, 0, 1, 9, 0, 0);
                for (int i = 0; i < 3; i++) {
                    int kind = order == 0 ? i : 2 - i;
                    if ((told >> kind) % 2 == 1) {
                        x.policy(kind == 2 ? CLIENT : ALL, kind == 0 ? ALL : 0, TIMEOUT, 31 + kind);
                    }
                }
                x.request(0, true, 200);
                int due = told >= 4 ? 33 : told >= 2 ? 32 : told == 1 ? 31 : 20;
                CHECK.due("kinds told " + told + ", order " + order, x.call(0, 3), due);
            }
        }
        CHECK.sentence(6, "each of the three is told for all, for a service that is called, or for a caller and a service");
        BrambleMesh y = new BrambleMesh();
        y.instance(0, 0, 1, 9, 0, 0);
        y.policy(CLIENT, 0, RETRIES, 3);
        y.policy(ALL, 0, TIMEOUT, 2);
        y.policy(ALL, ALL, HEDGE, 1);
        y.work(0, 50);
        y.request(0, true, 100);
        CHECK.due("each part by its own kind: the timeout", y.call(0, 3), 2);
        y.pass(1);
        CHECK.due("the hedge", y.calls(), 2);
        y.pass(1);
        CHECK.due("the retries", y.extra(CLIENT), 1);
        y.pass(1);
        CHECK.due("a retry", y.extra(CLIENT), 2);
    }

    /** 0 that is told for a kind is told: it counts ahead of another kind's number. */
    private static void aPolicyOfNone() {
        CHECK.sentence(6, "a hedge, 0 (none); retries, 0 to 3: 0 that is told counts as any other");
        BrambleMesh x = new BrambleMesh();
        x.instance(0, 0, 1, 9, 0, 0);
        x.policy(ALL, ALL, HEDGE, 1);
        x.policy(ALL, ALL, RETRIES, 3);
        x.policy(CLIENT, 0, HEDGE, 0);
        x.policy(ALL, 0, RETRIES, 0);
        x.fault(0, BrambleMesh.WRONG, 1);
        x.work(0, 5);
        x.request(0, true, 40);
        x.pass(6);
        CHECK.due("no hedge, no retry", x.calls(), 1);
        CHECK.due("FAILED", x.requestState(0), FAILED);
    }

    public static void main(String[] args) {
        theTick();
        atTheLastTick();
        work();
        whatItWas();
        steps();
        plansOfEachLength();
        instances();
        requests();
        calls();
        stepsWithoutCalls();
        repairs();
        slotsAndQueues();
        slotsOfThoseThatCall();
        nothingIsQueued();
        down();
        budgetsForRetries();
        budgetsForHedges();
        budgetsAtMost1000();
        placesOfPolicies();
        policiesAtFirst();
        kindsOfPolicies();
        aPolicyOfNone();
        CHECK.end();
    }
}
