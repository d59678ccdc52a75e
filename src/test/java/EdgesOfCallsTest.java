/** Calls and requests at their edges: deadlines, work, faults, ends and how they are known, the order within a tick, traces. */
public final class EdgesOfCallsTest {
    private static final int ALL = BrambleMesh.NONE;
    private static final int NONE = BrambleMesh.NONE;
    private static final int CLIENT = BrambleMesh.CLIENT;
    private static final int SLOW = BrambleMesh.SLOW, WRONG = BrambleMesh.WRONG, LOST = BrambleMesh.LOST, DOWN = BrambleMesh.DOWN;
    private static final int TIMEOUT = BrambleMesh.TIMEOUT, RETRIES = BrambleMesh.RETRIES, HEDGE = BrambleMesh.HEDGE;
    private static final int QUEUED = BrambleMesh.QUEUED, RUNNING = BrambleMesh.RUNNING, CALLING = BrambleMesh.CALLING;
    private static final int OK = BrambleMesh.OK, FAILED = BrambleMesh.FAILED, LATE = BrambleMesh.LATE;
    private static final int REFUSED = BrambleMesh.REFUSED, OFF = BrambleMesh.OFF, GOING = BrambleMesh.GOING;
    private static final Check CHECK = new Check();

    /** An instance with many slots in each of the services 0 to 5, and no retries. */
    private static BrambleMesh wideMesh() {
        BrambleMesh x = new BrambleMesh();
        x.policy(ALL, ALL, RETRIES, 0);
        x.policy(ALL, ALL, TIMEOUT, 100);
        for (int service = 0; service <= 5; service++) {
            x.instance(service, 0, 1, 9, 9, 0);
        }
        return x;
    }

    // ---- deadlines

    private static int deadlineWith(int ticks, int timeout, int tick) {
        BrambleMesh x = wideMesh();
        x.policy(CLIENT, 0, TIMEOUT, timeout);
        if (tick > 0) {
            x.pass(tick);
        }
        x.request(0, true, ticks);
        return x.call(0, 3);
    }

    private static void deadlinesOfRequests() {
        CHECK.sentence(11, "ticks: 1 to 200: how many ticks from now its deadline is");
        CHECK.due("1 tick", deadlineWith(1, 100, 0), 1);
        CHECK.due("1 tick from 7", deadlineWith(1, 100, 7), 8);
        CHECK.due("99 ticks from 7", deadlineWith(99, 100, 7), 106);
        BrambleMesh x = wideMesh();
        x.work(0, 50);
        x.fault(0, SLOW, 50);
        x.policy(CLIENT, 0, RETRIES, 3);
        x.policy(CLIENT, 0, TIMEOUT, 99);
        x.request(0, true, 200);
        for (int i = 0; i < 4; i++) {
            x.pass(49 + i % 2);
        }
        CHECK.due("its third try", x.call(2, 3), 200);
        x.pass(1);
        CHECK.due("going in tick 199", x.tick() == 199 && x.requestState(0) == GOING, true);
        x.pass(1);
        CHECK.due("LATE in tick 200", x.requestState(0), LATE);
        CHECK.sentence(11, "that of the call or the request whose step it is, or now and the timeout of its policy, if that is earlier");
        CHECK.due("the timeout is earlier by one", deadlineWith(31, 30, 5), 35);
        CHECK.due("both are one", deadlineWith(30, 30, 5), 35);
        CHECK.due("the request's is earlier by one", deadlineWith(29, 30, 5), 34);
        CHECK.due("the least timeout", deadlineWith(200, 1, 5), 6);
        CHECK.due("the greatest timeout", deadlineWith(200, 100, 5), 105);
    }

    /** The deadline of the call of a step that begins in tick 1, if its call has the deadline 30. */
    private static int deadlineOfStep(int timeout) {
        BrambleMesh x = wideMesh();
        x.step(0, 1, true, NONE);
        x.policy(CLIENT, 0, TIMEOUT, 30);
        x.policy(0, 1, TIMEOUT, timeout);
        x.request(0, true, 200);
        x.pass(1);
        return x.call(1, 3);
    }

    private static void deadlinesOfSteps() {
        CHECK.sentence(19, "its deadline: that of the call whose step it is, or now and the timeout of its policy, if that is earlier");
        CHECK.due("the timeout is earlier by one", deadlineOfStep(28), 29);
        CHECK.due("both are one", deadlineOfStep(29), 30);
        CHECK.due("the call's is earlier by one", deadlineOfStep(30), 30);
        CHECK.due("not that of the request", deadlineOfStep(100), 30);
        CHECK.due("the least", deadlineOfStep(1), 2);
        CHECK.sentence(19, "its deadline: a repair has none of its own");
        BrambleMesh x = wideMesh();
        x.step(0, 1, true, 2);
        x.step(2, 3, true, NONE);
        x.work(1, 9);
        x.policy(0, 2, TIMEOUT, 70);
        x.policy(2, 3, TIMEOUT, 100);
        x.request(0, true, 4);
        x.pass(4);
        CHECK.due("now and the timeout alone", x.call(2, 3), 74);
        x.pass(1);
        CHECK.due("its steps have that of the call", x.call(3, 3), 74);
    }

    private static void late() {
        CHECK.sentence(12, "Each call that has not ended, by rising numbers, whose deadline has come, ends, LATE.");
        BrambleMesh x = wideMesh();
        x.work(0, 3);
        x.policy(CLIENT, 0, TIMEOUT, 3);
        x.request(0, true, 9);
        x.pass(2);
        CHECK.due("not ahead of it", x.call(0, 2), RUNNING);
        x.pass(1);
        CHECK.due("though its work is done in that tick", x.call(0, 2), LATE);
        x.work(0, 2);
        x.request(0, true, 9);
        x.pass(2);
        CHECK.due("done a tick ahead of it", x.call(1, 2), OK);
        CHECK.sentence(12, "whose deadline has come, ends, LATE (QUEUED, RUNNING and CALLING ones)");
        BrambleMesh y = wideMesh();
        y.instance(1, 0, 1, 1, 1, 0);
        y.fault(1, DOWN, 1);
        y.step(0, 2, true, NONE);
        y.work(1, 50);
        y.work(2, 50);
        y.policy(ALL, 1, RETRIES, 1);
        y.request(0, true, 7);
        y.request(1, true, 7);
        y.request(1, true, 7);
        y.pass(1);
        int[] ahead = {CALLING, REFUSED, RUNNING, REFUSED, QUEUED, RUNNING};
        for (int i = 0; i < ahead.length; i++) {
            CHECK.due("ahead, call " + i, y.call(i, 2), ahead[i]);
        }
        y.pass(5);
        CHECK.due("not ahead of their deadline", y.call(0, 2) == CALLING && y.call(2, 2) == RUNNING && y.call(4, 2) == QUEUED, true);
        y.pass(1);
        CHECK.due("CALLING", y.call(0, 2), LATE);
        CHECK.due("RUNNING", y.call(2, 2), LATE);
        CHECK.due("QUEUED", y.call(4, 2), LATE);
        CHECK.due("nothing is left", y.load(6, true), 0);
    }

    /** Of a call and the call of its step with the same deadline, the lower number is LATE, and the other one is OFF by that. */
    private static void lateByRisingNumbers() {
        CHECK.sentence(12, "Each call that has not ended, by rising numbers, whose deadline has come, ends, LATE.");
        BrambleMesh x = wideMesh();
        x.step(0, 1, true, NONE);
        x.step(1, 2, true, NONE);
        x.work(2, 50);
        x.request(0, true, 9);
        x.pass(8);
        CHECK.due("one deadline", x.call(0, 3) == 9 && x.call(1, 3) == 9 && x.call(2, 3) == 9, true);
        x.pass(1);
        CHECK.due("the lowest", x.call(0, 2), LATE);
        CHECK.due("its own call", x.call(1, 2), OFF);
        CHECK.due("the call of that", x.call(2, 2), OFF);
    }

    // ---- work

    private static int ticksOf(int work, int slow) {
        BrambleMesh x = wideMesh();
        x.work(0, work);
        x.fault(0, SLOW, slow);
        x.request(0, true, 200);
        int ticks = 0;
        while (x.requestState(0) == GOING && ticks < 120) {
            ticks = x.pass(1);
        }
        return x.requestState(0) == OK ? ticks : NONE;
    }

    private static void workAndSlow() {
        CHECK.sentence(2, "as many ticks behind the one in which it begins to run as the work and what its instance is SLOW by, at least 1");
        CHECK.due("0 and 0", ticksOf(0, 0), 1);
        CHECK.due("1 and 0", ticksOf(1, 0), 1);
        CHECK.due("0 and 1", ticksOf(0, 1), 1);
        CHECK.due("1 and 1", ticksOf(1, 1), 2);
        CHECK.due("2 and 0", ticksOf(2, 0), 2);
        CHECK.due("0 and 2", ticksOf(0, 2), 2);
        CHECK.due("50 and 0", ticksOf(50, 0), 50);
        CHECK.due("0 and 50", ticksOf(0, 50), 50);
        CHECK.due("50 and 49", ticksOf(50, 49), 99);
        CHECK.sentence(5, "what its instance is SLOW by then; what runs or is queued goes on");
        BrambleMesh x = wideMesh();
        x.work(0, 4);
        x.fault(0, SLOW, 2);
        x.request(0, true, 90);
        x.fault(0, SLOW, 0);
        x.pass(5);
        CHECK.due("slow as it began", x.call(0, 2), RUNNING);
        x.request(0, true, 90);
        x.fault(0, SLOW, 50);
        x.pass(1);
        CHECK.due("and no longer", x.call(0, 2), OK);
        x.pass(2);
        CHECK.due("not slow as it began", x.call(1, 2), RUNNING);
        x.pass(1);
        CHECK.due("nor later", x.call(1, 2), OK);
    }

    private static void workOfThoseThatBegin() {
        CHECK.sentence(2, "Sets the work of a service, for calls that begin to run from now on.");
        BrambleMesh x = new BrambleMesh();
        x.policy(ALL, ALL, TIMEOUT, 100);
        x.instance(0, 0, 1, 1, 2, 0);
        x.work(0, 4);
        x.request(0, true, 90);
        x.request(0, true, 90);
        x.work(0, 2);
        x.pass(3);
        CHECK.due("one that runs has its old work", x.call(0, 2), RUNNING);
        x.pass(1);
        CHECK.due("4 ticks", x.call(0, 2), OK);
        x.work(0, 50);
        x.pass(1);
        CHECK.due("one that was queued has that of the tick in which it begins", x.call(1, 2), RUNNING);
        x.pass(1);
        CHECK.due("2 ticks", x.call(1, 2), OK);
    }

    private static void wrong() {
        CHECK.sentence(5, "Then, if its instance is WRONG, it ends, FAILED (as its work is done, not ahead and not behind)");
        BrambleMesh x = wideMesh();
        x.work(0, 3);
        x.fault(0, WRONG, 1);
        x.request(0, true, 90);
        x.pass(2);
        CHECK.due("not ahead", x.call(0, 2), RUNNING);
        x.pass(1);
        CHECK.due("as its work is done", x.call(0, 2), FAILED);
        x.request(0, true, 90);
        x.pass(2);
        x.fault(0, WRONG, 0);
        x.pass(1);
        CHECK.due("not WRONG any more", x.call(1, 2), OK);
        x.request(0, true, 90);
        x.pass(2);
        x.fault(0, WRONG, 1);
        x.pass(1);
        CHECK.due("WRONG since the last tick", x.call(2, 2), FAILED);
        BrambleMesh y = wideMesh();
        y.step(0, 1, true, NONE);
        y.work(1, 5);
        y.fault(0, WRONG, 1);
        y.request(0, true, 90);
        y.pass(1);
        CHECK.due("ahead of its steps", y.call(0, 2), FAILED);
        CHECK.due("none has begun", y.call(0, 6), 0);
        CHECK.due("no call of one", y.calls(), 1);
        y.fault(0, WRONG, 0);
        y.request(0, true, 90);
        y.pass(1);
        y.fault(0, WRONG, 1);
        y.pass(5);
        CHECK.due("a call that is CALLING goes on", y.call(1, 2), OK);
    }

    // ---- ends

    private static void ends() {
        CHECK.sentence(19, "otherwise it goes through the steps of the plan; behind the last one it ends, OK (a plan without steps)");
        BrambleMesh x = wideMesh();
        x.request(5, false, 9);
        x.pass(1);
        CHECK.due("OK as its work is done", x.call(0, 2), OK);
        CHECK.due("no step has begun", x.call(0, 6), 0);
        CHECK.sentence(19, "If a step fails, it ends, FAILED.");
        for (int failing = 0; failing < 4; failing++) {
            BrambleMesh y = wideMesh();
            for (int i = 0; i < 4; i++) {
                y.step(0, i == failing ? 4 : 1 + i % 2, true, NONE);
            }
            y.fault(4, WRONG, 1);
            y.request(0, true, 90);
            y.pass(20);
            CHECK.due("by step " + failing, y.call(0, 2), FAILED);
            CHECK.due("no step behind it", y.call(0, 6), failing + 1);
            CHECK.due("calls", y.calls(), failing + 2);
            CHECK.due("the tick of its end", y.requestTicks(0), failing + 2);
        }
    }

    private static void slotsAreFree() {
        CHECK.sentence(23, "When a call ends, its slot or its place in the queue is free (OFF, from the queue, from a slot, while CALLING)");
        BrambleMesh x = wideMesh();
        x.instance(1, 0, 1, 1, 1, 0);
        x.fault(1, DOWN, 1);
        x.policy(ALL, 1, RETRIES, 1);
        x.step(0, 1, true, NONE);
        x.step(1, 2, true, NONE);
        x.work(2, 50);
        x.policy(CLIENT, 0, TIMEOUT, 5);
        x.request(0, true, 50);
        x.request(0, true, 50);
        x.pass(3);
        CHECK.due("one is CALLING, one is QUEUED", x.load(6, true), 2);
        CHECK.due("one runs behind it", x.load(2, true), 1);
        CHECK.due("both that call", x.load(0, true), 2);
        x.pass(2);
        CHECK.due("LATE: both slots are free", x.load(0, true), 0);
        CHECK.due("OFF: the slot and the place in the queue", x.load(6, true), 0);
        CHECK.due("OFF: the slot of the call of the call", x.load(2, true), 0);
        x.request(1, true, 50);
        x.request(1, true, 50);
        CHECK.due("they can be taken", x.load(6, true), 2);
    }

    /** Call 0 runs till tick 6; call 1 to 3 are queued behind it, one of them LATE in tick 3. */
    private static void onePlaceInTheQueue(int late) {
        BrambleMesh x = new BrambleMesh();
        x.policy(ALL, ALL, RETRIES, 0);
        x.instance(0, 0, 1, 1, 3, 0);
        x.work(0, 6);
        for (int i = 0; i < 4; i++) {
            x.request(0, true, i == late ? 3 : 90);
        }
        x.work(0, 2);
        x.pass(3);
        CHECK.due("its place is free", x.load(0, true), 3);
        x.pass(3);
        for (int i = 1; i < 4; i++) {
            int first = late == 1 ? 2 : 1;
            CHECK.due("call " + i + ", as " + late + " is LATE", x.call(i, 2), i == late ? LATE : i == first ? RUNNING : QUEUED);
        }
        x.pass(4);
        for (int i = 0; i < 4; i++) {
            CHECK.due("call " + i + " in the end, as " + late + " is LATE", x.call(i, 2), i == late ? LATE : OK);
        }
        CHECK.due("nothing is left", x.load(0, true), 0);
    }

    private static void placesInTheQueue() {
        CHECK.sentence(23, "When a call ends, .. its place in the queue is free (the first one, one in the middle, the last one)");
        for (int late = 1; late <= 3; late++) {
            onePlaceInTheQueue(late);
        }
    }

    /** The first try ends as told at an instance that is LOST then; what its request does about it, tick by tick. */
    private static void lostEnd(String what, int fault, int state, boolean isSafe, int due, int calls) {
        BrambleMesh x = wideMesh();
        x.policy(CLIENT, 0, TIMEOUT, 6);
        x.policy(CLIENT, 0, RETRIES, 1);
        x.instance(0, 1, 1, 9, 9, 0);
        x.fault(0, LOST, 1);
        if (fault != NONE) {
            x.fault(0, fault, 1);
        }
        x.request(0, isSafe, 50);
        x.pass(1);
        CHECK.due(what + ": its state", x.call(0, 2), state);
        x.fault(0, LOST, 0);
        x.pass(4);
        CHECK.due(what + ": not known ahead of its deadline", x.requestState(0), GOING);
        CHECK.due(what + ": no other try", x.calls(), 1);
        x.pass(1);
        CHECK.due(what + ": known as LATE at its deadline", x.calls(), calls);
        CHECK.due(what + ": its state stays", x.call(0, 2), state);
        x.pass(1);
        CHECK.due(what + ": the request", x.requestState(0), due);
    }

    private static void lost() {
        CHECK.sentence(5, "known at once, but for OK, FAILED and REFUSED at an instance that is LOST then, which are known as LATE at the call's deadline");
        lostEnd("OK, safe", NONE, OK, true, OK, 2);
        lostEnd("OK, not safe", NONE, OK, false, FAILED, 1);
        lostEnd("FAILED, safe", WRONG, FAILED, true, OK, 2);
        lostEnd("FAILED, not safe", WRONG, FAILED, false, FAILED, 1);
        lostEnd("REFUSED, safe", DOWN, REFUSED, true, OK, 2);
        lostEnd("REFUSED, not safe", DOWN, REFUSED, false, FAILED, 1);
        CHECK.sentence(5, "Its end is known at once (LATE at an instance that is LOST, and ends ahead of and behind the fault)");
        BrambleMesh x = wideMesh();
        x.policy(CLIENT, 0, TIMEOUT, 4);
        x.work(0, 9);
        x.fault(0, LOST, 1);
        x.request(0, true, 50);
        x.pass(4);
        CHECK.due("LATE", x.requestState(0), FAILED);
        x.work(0, 2);
        x.request(0, true, 50);
        x.pass(1);
        x.fault(0, LOST, 0);
        x.pass(1);
        CHECK.due("LOST while it ran, but not as it ends", x.requestState(1), OK);
        x.request(0, true, 50);
        x.pass(2);
        x.fault(0, LOST, 1);
        CHECK.due("LOST behind its end", x.requestState(2), OK);
        x.fault(0, DOWN, 1);
        x.fault(0, LOST, 0);
        x.request(0, true, 50);
        CHECK.due("REFUSED without LOST, at once", x.requestState(3), FAILED);
    }

    private static void full() {
        CHECK.sentence(5, "REFUSED at an instance that is LOST (as there is no room)");
        BrambleMesh x = new BrambleMesh();
        x.policy(ALL, ALL, TIMEOUT, 6);
        x.policy(ALL, ALL, RETRIES, 0);
        x.instance(0, 0, 1, 1, 0, 0);
        x.work(0, 3);
        x.request(0, true, 50);
        x.fault(0, LOST, 1);
        x.request(0, true, 50);
        CHECK.due("no room", x.call(1, 2), REFUSED);
        CHECK.due("that is not known", x.requestState(1), GOING);
        x.fault(0, LOST, 0);
        x.pass(5);
        CHECK.due("nor later", x.requestState(1), GOING);
        x.pass(1);
        CHECK.due("but at its deadline", x.requestState(1), FAILED);
    }

    // ---- a tick

    /** Parts 2, 3, 4, 5, 6 and 7 in one tick, each seen by the ones behind it. */
    private static void theOrderOfATick() {
        CHECK.sentence(12, "2. .. ends, LATE. 3. Each call that ran ahead of this tick .. goes on as told");
        BrambleMesh x = wideMesh();
        x.work(0, 4);
        x.policy(CLIENT, 0, TIMEOUT, 4);
        x.request(0, true, 50);
        x.pass(4);
        CHECK.due("LATE ahead of done", x.call(0, 2), LATE);
        CHECK.sentence(12, "3. .. goes on as told (its steps begin in 4.)");
        BrambleMesh y = wideMesh();
        y.step(0, 1, true, NONE);
        y.step(1, 2, true, NONE);
        y.request(0, true, 50);
        y.pass(1);
        CHECK.due("its step begins in the same tick", y.calls(), 2);
        CHECK.due("the call of that begins to run in it", y.call(1, 2), RUNNING);
        y.pass(1);
        CHECK.due("and is done a tick later", y.call(1, 2), CALLING);
        CHECK.sentence(12, "6. For each instance .. as long as it has a slot and calls in its queue, the first one runs.");
        BrambleMesh z = new BrambleMesh();
        z.policy(ALL, ALL, TIMEOUT, 100);
        z.instance(0, 0, 1, 3, 9, 0);
        z.work(0, 2);
        for (int i = 0; i < 8; i++) {
            z.request(0, true, 90);
        }
        z.pass(2);
        int[] due = {OK, OK, OK, RUNNING, RUNNING, RUNNING, QUEUED, QUEUED};
        for (int i = 0; i < due.length; i++) {
            CHECK.due("call " + i, z.call(i, 2), due[i]);
        }
        z.pass(1);
        CHECK.due("it began in the tick ahead", z.call(3, 2), RUNNING);
        z.pass(1);
        CHECK.due("2 ticks behind that", z.call(3, 2), OK);
        CHECK.sentence(12, "4. Each call that is CALLING .. a step that is done is followed by the next one at once.");
        BrambleMesh w = wideMesh();
        w.step(0, 1, true, NONE);
        w.step(0, 2, true, NONE);
        w.request(0, true, 50);
        w.pass(2);
        CHECK.due("the next one in the same tick", w.call(2, 2), RUNNING);
        CHECK.due("begun", w.call(0, 6), 2);
        w.pass(1);
        CHECK.due("done in 4, seen by the request in 5", w.requestState(0), OK);
    }

    private static void loadsAreTold() {
        CHECK.sentence(23, "7. In each tick that is a multiple of 5: each instance tells its load");
        BrambleMesh x = wideMesh();
        x.work(0, 50);
        for (int tick = 0; tick < 24; tick++) {
            if (x.calls() < 9) {
                x.request(0, true, 99);
            }
            int ahead = x.load(0, false);
            x.pass(1);
            CHECK.due("told in tick " + x.tick(), x.load(0, false), x.tick() % 5 == 0 ? x.load(0, true) : ahead);
        }
        CHECK.due("9 are told at last", x.load(0, false), 9);
        CHECK.sentence(23, "its load: calls that are QUEUED, RUNNING or CALLING there (not those that have ended)");
        BrambleMesh y = new BrambleMesh();
        y.instance(0, 0, 1, 2, 2, 0);
        y.instance(1, 0, 1, 1, 0, 0);
        y.policy(ALL, ALL, RETRIES, 0);
        y.step(0, 1, true, NONE);
        y.work(1, 50);
        CHECK.due("none", y.load(0, true), 0);
        for (int i = 1; i <= 5; i++) {
            y.request(0, true, 40);
            CHECK.due("behind request " + i, y.load(0, true), Math.min(i, 4));
        }
        y.pass(1);
        CHECK.due("CALLING, FAILED, RUNNING and QUEUED", y.load(0, true), 3);
    }

    // ---- requests

    private static void endsOfRequests() {
        CHECK.sentence(14, "LATE when its deadline has come (looked at in 5. ahead of its step)");
        BrambleMesh x = wideMesh();
        x.fault(0, LOST, 1);
        x.request(0, true, 1);
        x.request(0, true, 2);
        x.pass(1);
        CHECK.due("1 tick", x.requestState(0), LATE);
        CHECK.due("not ahead of 2", x.requestState(1), GOING);
        x.pass(1);
        CHECK.due("2 ticks", x.requestState(1), LATE);
        CHECK.due("nothing was looked at", x.breaker(CLIENT, 0), BrambleMesh.CLOSED);
    }

    /** The hedge is OK first, while the first try is CALLING with a call of its own. */
    private static void callsThatAreOff() {
        CHECK.sentence(14, "A request ends, OK when its step is done; its calls that have not ended are OFF then");
        BrambleMesh x = wideMesh();
        x.instance(0, 0, 1, 9, 9, 0);
        x.instance(1, 0, 1, 9, 9, 0);
        x.step(0, 1, true, NONE);
        x.policy(CLIENT, 0, HEDGE, 1);
        x.fault(1, SLOW, 40);
        x.request(0, true, 90);
        x.pass(3);
        int[] due = {OFF, OFF, OK, OK};
        int[] services = {0, 1, 0, 1};
        CHECK.due("calls", x.calls(), 4);
        for (int i = 0; i < due.length; i++) {
            CHECK.due("service of call " + i, x.call(i, 0), services[i]);
            CHECK.due("call " + i, x.call(i, 2), due[i]);
        }
        CHECK.due("OK", x.requestState(0), OK);
        CHECK.due("in 3 ticks", x.requestTicks(0), 3);
    }

    private static void ticksOfRequests() {
        CHECK.sentence(15, "Returns how many ticks a request has taken, up to its end, or up to now.");
        BrambleMesh x = wideMesh();
        x.pass(7);
        x.request(5, true, 20);
        CHECK.due("none, going", x.requestTicks(0), 0);
        x.work(5, 4);
        x.request(5, true, 20);
        x.pass(3);
        CHECK.due("up to its end", x.requestTicks(0), 1);
        CHECK.due("up to now", x.requestTicks(1), 3);
        x.pass(50);
        CHECK.due("up to its end, long ago", x.requestTicks(0), 1);
        CHECK.due("up to the other's end", x.requestTicks(1), 4);
        x.fault(5, DOWN, 1);
        x.request(5, true, 20);
        x.pass(1);
        CHECK.due("none, as it failed at once", x.requestTicks(2), 0);
    }

    private static void callsOfRequests() {
        CHECK.sentence(17, "Returns how many calls there were for a request, those of calls counted (none, retries, hedges, calls of calls)");
        BrambleMesh x = wideMesh();
        x.instance(0, 1, 1, 9, 9, 0);
        x.step(0, 1, true, 3);
        x.step(1, 2, true, NONE);
        x.policy(CLIENT, 0, HEDGE, 2);
        x.policy(CLIENT, 0, RETRIES, 1);
        x.work(1, 5);
        x.request(0, true, 20);
        x.request(2, true, 20);
        CHECK.due("its first try", x.callsOf(0), 1);
        x.pass(1);
        CHECK.due("one of a call", x.callsOf(0), 2);
        x.pass(1);
        CHECK.due("a hedge", x.callsOf(0), 3);
        x.pass(1);
        CHECK.due("one of a hedge", x.callsOf(0), 4);
        x.pass(3);
        CHECK.due("one of a call of a call", x.callsOf(0), 5);
        CHECK.due("not that of another request", x.callsOf(1), 1);
        x.pass(9);
        CHECK.due("the hedge is OFF and undone, by calls of no request", x.callsOf(0), 5);
        CHECK.due("all calls", x.calls(), 7);
        BrambleMesh y = new BrambleMesh();
        y.request(0, true, 20);
        CHECK.due("none without an instance", y.callsOf(0), 0);
        y.instance(0, 0, 1, 1, 0, 0);
        y.fault(0, DOWN, 1);
        y.request(0, true, 20);
        CHECK.due("a retry", y.callsOf(1), 2);
        CHECK.sentence(18, "Returns how many calls there were.");
        CHECK.due("none of the first request, two of the second", y.calls(), 2);
        CHECK.due("none at first", new BrambleMesh().calls(), 0);
    }

    private static void nothingToTell() {
        CHECK.sentence(19, "Returns as told; NONE for nothing. (4 the call of whose step it is, 5 the request, 7 the repair)");
        BrambleMesh x = wideMesh();
        x.step(0, 1, true, 2);
        x.step(2, 3, true, NONE);
        x.work(1, 9);
        x.request(5, true, 4);
        x.request(0, true, 4);
        x.pass(5);
        int[][] due = {{NONE, 0, NONE}, {NONE, 1, NONE}, {1, 1, NONE}, {NONE, NONE, 0}, {3, NONE, NONE}};
        CHECK.due("calls", x.calls(), due.length);
        for (int i = 0; i < due.length; i++) {
            CHECK.due("the call whose step it is, of " + i, x.call(i, 4), due[i][0]);
            CHECK.due("the request of " + i, x.call(i, 5), due[i][1]);
            CHECK.due("the repair of " + i, x.call(i, 7), due[i][2]);
        }
    }

    // ---- traces

    private static void keptByTheHead() {
        CHECK.sentence(16, "kept by the head, if its number is a multiple of the rate, 4 at first");
        BrambleMesh x = wideMesh();
        for (int i = 0; i < 40; i++) {
            x.request(i % 6, true, 40);
            CHECK.due("4 at first, request " + i, x.isKept(i), i % 4 == 0);
        }
        for (int rate = 1; rate <= 10; rate++) {
            x.traces(rate, 600);
            for (int i = 0; i < 40; i++) {
                CHECK.due("rate " + rate + ", request " + i, x.isKept(i), i % rate == 0);
            }
        }
        x.traces(4, 600);
        x.pass(10);
        for (int i = 0; i < 40; i++) {
            CHECK.due("OK, request " + i, x.requestState(i), OK);
            CHECK.due("at its end, request " + i, x.isKept(i), i % 4 == 0);
        }
    }

    /** Request 1 takes so many ticks with this limit. */
    private static boolean isKeptBehind(int ticks, int limit) {
        BrambleMesh x = wideMesh();
        if (limit != 30) {
            x.traces(4, limit);
        }
        x.request(5, true, 9);
        x.pass(9);
        x.work(0, ticks / 2);
        x.fault(0, SLOW, ticks - ticks / 2);
        x.request(0, true, 200);
        for (int i = 0; i < ticks; i++) {
            CHECK.due("kept by the head alone, while it goes", x.isKept(1), false);
            x.pass(1);
        }
        CHECK.due("OK behind " + ticks, x.requestState(1), OK);
        CHECK.due("ticks", x.requestTicks(1), ticks);
        return x.isKept(1);
    }

    private static void keptByTheTail() {
        CHECK.sentence(16, "or by the tail, when it ends .. behind more ticks than a limit, 30 at first");
        CHECK.due("30", isKeptBehind(30, 30), false);
        CHECK.due("31", isKeptBehind(31, 30), true);
        CHECK.due("1 with a limit of 1", isKeptBehind(1, 1), false);
        CHECK.due("2 with a limit of 1", isKeptBehind(2, 1), true);
        CHECK.due("60 with a limit of 60", isKeptBehind(60, 60), false);
        CHECK.due("61 with a limit of 60", isKeptBehind(61, 60), true);
        CHECK.due("99 with a limit of 600", isKeptBehind(99, 600), false);
        CHECK.sentence(16, "or by the tail, when it ends otherwise than OK (FAILED at once, FAILED, LATE)");
        BrambleMesh x = wideMesh();
        x.traces(10, 600);
        x.request(5, true, 9);
        x.fault(1, WRONG, 1);
        x.fault(2, DOWN, 1);
        x.fault(3, LOST, 1);
        x.request(1, true, 2);
        x.request(2, true, 2);
        x.request(3, true, 2);
        x.request(4, true, 2);
        CHECK.due("FAILED at once", x.isKept(2), true);
        CHECK.due("going", x.isKept(1) || x.isKept(3) || x.isKept(4), false);
        x.pass(1);
        CHECK.due("FAILED", x.requestState(1) == FAILED && x.isKept(1), true);
        CHECK.due("OK", x.requestState(4) == OK && !x.isKept(4), true);
        CHECK.due("still going", x.requestState(3) == GOING && !x.isKept(3), true);
        x.pass(1);
        CHECK.due("LATE", x.requestState(3) == LATE && x.isKept(3), true);
    }

    private static void asBothAreWhenItEnds() {
        CHECK.sentence(16, "(the rate and the limit) as both are when it ends");
        BrambleMesh x = wideMesh();
        x.traces(1, 600);
        x.work(0, 5);
        x.request(5, true, 9);
        x.request(0, true, 9);
        x.request(0, true, 9);
        CHECK.due("by the rate while it goes", x.isKept(1), true);
        x.traces(2, 4);
        CHECK.due("by another rate while it goes", x.isKept(1), false);
        CHECK.due("the limit does not count yet", x.isKept(2), true);
        x.pass(4);
        x.traces(2, 5);
        x.pass(1);
        CHECK.due("5 are not more than the 5 of the end", x.isKept(1), false);
        CHECK.due("by the rate of the end", x.isKept(2), true);
        x.traces(1, 1);
        CHECK.due("neither counts later", x.isKept(1), false);
        x.traces(10, 600);
        CHECK.due("nor the other way", x.isKept(2), true);
        x.traces(10, 4);
        x.request(0, true, 9);
        x.pass(5);
        x.traces(10, 600);
        CHECK.due("more ticks than the limit of the end", x.isKept(3), true);
    }

    public static void main(String[] args) {
        deadlinesOfRequests();
        deadlinesOfSteps();
        late();
        lateByRisingNumbers();
        workAndSlow();
        workOfThoseThatBegin();
        wrong();
        ends();
        slotsAreFree();
        placesInTheQueue();
        lost();
        full();
        theOrderOfATick();
        loadsAreTold();
        endsOfRequests();
        callsThatAreOff();
        ticksOfRequests();
        callsOfRequests();
        nothingToTell();
        keptByTheHead();
        keptByTheTail();
        asBothAreWhenItEnds();
        CHECK.end();
    }
}
