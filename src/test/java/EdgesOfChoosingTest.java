/** Breakers, shunned instances, burdens, zones, canaries and the judge at their edges. */
public final class EdgesOfChoosingTest {
    private static final int ALL = BrambleMesh.NONE;
    private static final int NONE = BrambleMesh.NONE;
    private static final int CLIENT = BrambleMesh.CLIENT;
    private static final int SLOW = BrambleMesh.SLOW, WRONG = BrambleMesh.WRONG, LOST = BrambleMesh.LOST, DOWN = BrambleMesh.DOWN;
    private static final int TIMEOUT = BrambleMesh.TIMEOUT, RETRIES = BrambleMesh.RETRIES, HEDGE = BrambleMesh.HEDGE;
    private static final int OK = BrambleMesh.OK, FAILED = BrambleMesh.FAILED, GOING = BrambleMesh.GOING;
    private static final int CLOSED = BrambleMesh.CLOSED, OPEN = BrambleMesh.OPEN, HALF = BrambleMesh.HALF;
    private static final Check CHECK = new Check();

    /** Instances of service 0, by zone, weight and version; no retries. */
    private static BrambleMesh meshOf(int... zoneWeightVersion) {
        BrambleMesh x = new BrambleMesh();
        x.policy(ALL, ALL, RETRIES, 0);
        for (int i = 0; i + 2 < zoneWeightVersion.length; i += 3) {
            x.instance(0, zoneWeightVersion[i], zoneWeightVersion[i + 1], 9, 9, zoneWeightVersion[i + 2]);
        }
        return x;
    }

    /** The instance of the first call that a request of this service makes now. */
    private static int chosenBy(BrambleMesh x, int service) {
        int call = x.calls();
        x.request(service, true, 100);
        return x.calls() > call ? x.call(call, 1) : NONE;
    }

    // ---- breakers

    /** Ends at instance 0, each of its own request, in a tick each: 'o' OK, 'f' FAILED, 'r' REFUSED, 'l' LATE. */
    private static BrambleMesh meshBehind(String ends) {
        BrambleMesh x = meshOf(0, 1, 0);
        for (int i = 0; i < ends.length(); i++) {
            end(x, ends.charAt(i));
        }
        return x;
    }

    private static void end(BrambleMesh x, char end) {
        x.fault(0, WRONG, end == 'f' ? 1 : 0);
        x.fault(0, DOWN, end == 'r' ? 1 : 0);
        x.fault(0, SLOW, end == 'l' ? 9 : 0);
        x.policy(CLIENT, 0, TIMEOUT, end == 'l' ? 1 : 50);
        x.request(0, false, 50);
        x.pass(1);
        x.fault(0, WRONG, 0);
        x.fault(0, DOWN, 0);
        x.fault(0, SLOW, 0);
    }

    private static void dueBehind(String ends, int due) {
        CHECK.due("behind " + ends, meshBehind(ends).breaker(CLIENT, 0), due);
    }

    private static void threeInARow() {
        CHECK.sentence(21, "FAILED, LATE and REFUSED are 1 more in a row, and with 3 .. it becomes OPEN");
        for (String ends : new String[] {"", "f", "l", "r", "ff", "ll", "rr", "fl", "lr", "rf"}) {
            dueBehind(ends, CLOSED);
        }
        for (String ends : new String[] {"fff", "lll", "rrr", "flr", "rlf", "lrf", "ffr", "rrl", "llf"}) {
            dueBehind(ends, OPEN);
        }
        CHECK.sentence(21, "OK makes it CLOSED, with 0 in a row");
        for (String ends : new String[] {"o", "ffo", "ffof", "ffoff", "off", "ofoff", "fofofo", "ffoffoff"}) {
            dueBehind(ends, CLOSED);
        }
        for (String ends : new String[] {"offf", "ffofff", "folrf", "fooooolrf"}) {
            dueBehind(ends, OPEN);
        }
        CHECK.sentence(21, "Each caller has a breaker to each instance");
        BrambleMesh x = meshOf(0, 1, 0, 0, 1, 0);
        x.fault(0, DOWN, 1);
        x.policy(ALL, ALL, RETRIES, 0);
        for (int i = 0; i < 5; i++) {
            x.request(0, true, 50);
        }
        CHECK.due("instance 0", x.breaker(CLIENT, 0), OPEN);
        CHECK.due("instance 1", x.breaker(CLIENT, 1), CLOSED);
        for (int caller = 0; caller <= 5; caller++) {
            CHECK.due("of caller " + caller, x.breaker(caller, 0), CLOSED);
        }
    }

    private static void halfBehindTenTicks() {
        CHECK.sentence(21, "10 ticks later it becomes HALF. (opened ahead of any tick, and in a tick)");
        for (int tick = 0; tick <= 6; tick++) {
            BrambleMesh x = meshOf(0, 1, 0);
            if (tick > 0) {
                x.pass(tick);
            }
            x.fault(0, DOWN, 1);
            for (int i = 0; i < 3; i++) {
                x.request(0, true, 50);
            }
            CHECK.due("opened in tick " + tick, x.breaker(CLIENT, 0), OPEN);
            x.pass(9);
            CHECK.due("9 behind tick " + tick, x.breaker(CLIENT, 0), OPEN);
            x.pass(1);
            CHECK.due("10 behind tick " + tick, x.breaker(CLIENT, 0), HALF);
            x.pass(40);
            CHECK.due("and stays", x.breaker(CLIENT, 0), HALF);
        }
        BrambleMesh y = meshBehind("ff");
        y.fault(0, WRONG, 1);
        y.request(0, true, 50);
        y.pass(1);
        CHECK.due("opened in tick 3", y.breaker(CLIENT, 0), OPEN);
        y.pass(9);
        CHECK.due("tick 12", y.breaker(CLIENT, 0), OPEN);
        y.pass(1);
        CHECK.due("tick 13", y.breaker(CLIENT, 0), HALF);
    }

    private static BrambleMesh halfMesh() {
        BrambleMesh x = meshBehind("rrr");
        CHECK.due("OPEN since tick 2", x.breaker(CLIENT, 0), OPEN);
        x.pass(9);
        CHECK.due("HALF in tick 12", x.breaker(CLIENT, 0), HALF);
        return x;
    }

    private static void whenItIsHalf() {
        CHECK.sentence(21, "FAILED, LATE and REFUSED .. when it is HALF, it becomes OPEN");
        for (char end : new char[] {'f', 'l', 'r'}) {
            BrambleMesh x = halfMesh();
            int opened = x.tick() + (end == 'r' ? 0 : 1);
            end(x, end);
            CHECK.due("by one " + end, x.breaker(CLIENT, 0), OPEN);
            x.pass(opened + 9 - x.tick());
            CHECK.due("9 ticks later, by " + end, x.breaker(CLIENT, 0), OPEN);
            x.pass(1);
            CHECK.due("10 ticks later, by " + end, x.breaker(CLIENT, 0), HALF);
        }
        CHECK.sentence(21, "OK makes it CLOSED, with 0 in a row (when it is HALF)");
        BrambleMesh y = halfMesh();
        end(y, 'o');
        CHECK.due("by one OK", y.breaker(CLIENT, 0), CLOSED);
        end(y, 'f');
        end(y, 'f');
        CHECK.due("two more", y.breaker(CLIENT, 0), CLOSED);
        end(y, 'f');
        CHECK.due("three more", y.breaker(CLIENT, 0), OPEN);
    }

    private static void noneWhileItIsOpen() {
        CHECK.sentence(21, "It counts ends that are looked at .. but none while it is OPEN");
        BrambleMesh x = meshOf(0, 1, 0);
        x.work(0, 4);
        x.request(0, true, 50);
        x.work(0, 7);
        x.request(0, true, 50);
        x.fault(0, DOWN, 1);
        for (int i = 0; i < 3; i++) {
            x.request(0, true, 50);
        }
        x.pass(4);
        CHECK.due("an OK", x.requestState(0), OK);
        CHECK.due("does not close it", x.breaker(CLIENT, 0), OPEN);
        x.fault(0, WRONG, 1);
        x.pass(3);
        CHECK.due("a FAILED", x.requestState(1), FAILED);
        x.pass(2);
        CHECK.due("tick 9", x.breaker(CLIENT, 0), OPEN);
        x.pass(1);
        CHECK.due("does not keep it OPEN for longer", x.breaker(CLIENT, 0), HALF);
    }

    private static void halfWithoutATryThatIsOut() {
        CHECK.sentence(21, "the breaker of the caller is CLOSED, or HALF without a try of this caller there that is out");
        BrambleMesh x = halfMesh();
        x.work(0, 5);
        CHECK.due("none is out", chosenBy(x, 0), 0);
        CHECK.due("one is out", chosenBy(x, 0), NONE);
        x.pass(4);
        CHECK.due("still", chosenBy(x, 0), NONE);
        x.pass(1);
        CHECK.due("CLOSED by its end", chosenBy(x, 0), 0);
        CHECK.due("CLOSED, with one that is out", chosenBy(x, 0), 0);
        CHECK.sentence(21, "a try of this caller there that is out (a try of another caller is none)");
        BrambleMesh y = new BrambleMesh();
        y.policy(ALL, ALL, RETRIES, 0);
        y.instance(1, 0, 1, 9, 9, 0);
        y.instance(0, 0, 1, 9, 9, 0);
        y.step(0, 1, true, NONE);
        y.fault(0, DOWN, 1);
        for (int i = 0; i < 3; i++) {
            y.request(1, true, 50);
        }
        y.fault(0, DOWN, 0);
        y.pass(9);
        y.work(1, 9);
        y.request(0, true, 50);
        y.pass(1);
        CHECK.due("a try of service 0", y.load(0, true), 1);
        CHECK.due("HALF for the CLIENT", y.breaker(CLIENT, 0), HALF);
        CHECK.due("it can be chosen", chosenBy(y, 1), 0);
        CHECK.due("once", chosenBy(y, 1), NONE);
    }

    private static void stepsThatAreOver() {
        CHECK.sentence(21, "(those of steps that are over are not (out), nor those that are OFF)");
        BrambleMesh x = halfMesh();
        x.fault(0, LOST, 1);
        x.request(0, true, 3);
        CHECK.due("out, as its reply is lost", chosenBy(x, 0), NONE);
        x.pass(2);
        CHECK.due("still out", chosenBy(x, 0), NONE);
        x.pass(1);
        CHECK.due("its request is LATE, nobody has looked at it", x.breaker(CLIENT, 0), HALF);
        CHECK.due("not out", chosenBy(x, 0), 0);
        BrambleMesh y = halfMesh();
        y.instance(0, 0, 1, 9, 9, 0);
        y.policy(CLIENT, 0, HEDGE, 1);
        y.work(0, 1);
        y.fault(0, SLOW, 20);
        CHECK.due("a try at the one that is HALF", chosenBy(y, 0), 0);
        y.policy(CLIENT, 0, HEDGE, 0);
        y.fault(1, SLOW, 9);
        CHECK.due("out: another one", chosenBy(y, 0), 1);
        y.policy(CLIENT, 0, HEDGE, 1);
        y.fault(1, SLOW, 0);
        y.pass(2);
        CHECK.due("OFF by its hedge", y.call(3, 2), BrambleMesh.OFF);
        CHECK.due("still HALF", y.breaker(CLIENT, 0), HALF);
        y.policy(CLIENT, 0, HEDGE, 0);
        CHECK.due("not out", chosenBy(y, 0), 0);
    }

    /** A call that has gone OFF has a step whose try's reply is lost: that is over, ahead of the try's deadline. */
    private static void stepsOfCallsThatHaveEnded() {
        CHECK.sentence(21, "(those of steps that are over are not (out): a step of a call that has ended)");
        BrambleMesh x = meshOf(0, 1, 0, 0, 1, 0);
        x.instance(1, 0, 1, 9, 9, 0);
        x.step(0, 1, true, NONE);
        x.fault(2, DOWN, 1);
        for (int i = 0; i < 3; i++) {
            x.request(0, true, 50);
        }
        x.pass(1);
        CHECK.due("OPEN", x.breaker(0, 2), OPEN);
        x.pass(10);
        x.fault(2, DOWN, 0);
        x.fault(2, LOST, 1);
        x.instance(1, 1, 1, 9, 9, 0);
        x.policy(CLIENT, 0, HEDGE, 1);
        x.request(0, true, 50);
        x.pass(3);
        CHECK.due("the try whose reply is lost", x.call(7, 1) * 10 + x.call(7, 2), 23);
        CHECK.due("its call is OFF", x.call(6, 2), BrambleMesh.OFF);
        CHECK.due("HALF", x.breaker(0, 2), HALF);
        x.request(0, true, 50);
        int calls = x.calls();
        x.pass(1);
        CHECK.due("it can be chosen", x.call(calls, 1), 2);
    }

    // ---- shunned

    /** Service 5 has instance 0; the services 0 to 4 have one each and a step that calls it; each tries thrice, REFUSED. */
    private static BrambleMesh meshOfEyes(int open) {
        BrambleMesh x = new BrambleMesh();
        x.policy(ALL, ALL, RETRIES, 0);
        x.policy(ALL, 5, RETRIES, 2);
        x.instance(5, 0, 1, 9, 9, 0);
        for (int service = 0; service <= 4; service++) {
            x.instance(service, 0, 1, 9, 9, 0);
            x.step(service, 5, true, NONE);
        }
        x.eyes(7);
        x.fault(0, DOWN, 1);
        for (int i = 0; i < open; i++) {
            x.request(i == 5 ? 5 : i, true, 50);
        }
        x.pass(1);
        int count = 0;
        for (int caller = 0; caller <= 6; caller++) {
            count += x.breaker(caller, 0) == OPEN ? 1 : 0;
        }
        CHECK.due("breakers that are OPEN", count, open);
        x.fault(0, DOWN, 0);
        return x;
    }

    private static void shunned() {
        CHECK.sentence(22, "An instance is shunned, if the breakers of as many callers as there are eyes, 3 at first, or more, are OPEN to it.");
        for (int open = 0; open <= 6; open++) {
            BrambleMesh x = meshOfEyes(open);
            for (int eyes = 1; eyes <= 7; eyes++) {
                x.eyes(eyes);
                CHECK.due(open + " OPEN, " + eyes + " eyes", x.isShunned(0), open >= eyes);
                CHECK.due("others are not", x.isShunned(1), false);
            }
            x.eyes(open + 1);
            CHECK.due(open + " OPEN, one eye more: it can be chosen", chosenBy(x, 5), open == 6 ? NONE : 0);
            for (int eyes = 1; eyes <= open; eyes++) {
                x.eyes(eyes);
                CHECK.due(open + " OPEN, " + eyes + " eyes: it can't be chosen", chosenBy(x, 5), NONE);
            }
            x.eyes(Math.max(1, open));
            x.pass(10);
            CHECK.due("HALF does not shun", x.isShunned(0), false);
        }
        CHECK.sentence(8, "Sets how many breakers that are OPEN shun an instance. (3 at first)");
        BrambleMesh y = new BrambleMesh();
        CHECK.due("at first", y.eyes(3), 3);
        BrambleMesh z = meshOfEyes(2);
        CHECK.due("7 were told", z.eyes(3), 7);
        CHECK.due("2 of 3", z.isShunned(0), false);
        BrambleMesh w = meshOfEyes(3);
        w.eyes(3);
        CHECK.due("3 of 3", w.isShunned(0), true);
    }

    // ---- burdens

    private static void dueOrder(String what, BrambleMesh x, int... due) {
        for (int i = 0; i < due.length; i++) {
            CHECK.due(what + ", try " + i, chosenBy(x, 0), due[i]);
        }
    }

    private static void leastBurden() {
        CHECK.sentence(23, "Chosen is the one with the least burden, of several the lowest");
        dueOrder("all alike", meshOf(0, 1, 0, 0, 1, 0, 0, 1, 0), 0, 1, 2, 0, 1, 2);
        dueOrder("all alike, in another zone", meshOf(1, 1, 0, 2, 1, 0), 0, 1, 0, 1);
        CHECK.sentence(23, "100 times its load as told last, and the tries of this caller there since it was told, together, divided by its weight");
        dueOrder("weights 1 and 9", meshOf(0, 1, 0, 0, 9, 0), 0, 1, 1, 1, 1, 1, 1, 1, 1, 1, 0, 1);
        dueOrder("weights 2 and 3", meshOf(0, 2, 0, 0, 3, 0), 0, 1, 1, 0, 1, 0);
        CHECK.sentence(23, "and 150 more if it is in another zone than the caller (0 for requests)");
        dueOrder("zone 1 or 0, weight 1", meshOf(1, 1, 0, 0, 1, 0), 1, 1, 0, 1);
        dueOrder("zone 2 or 0, weight 1", meshOf(2, 1, 0, 0, 1, 0), 1, 1, 0, 1);
        dueOrder("150 and 150: the lowest, there", meshOf(1, 2, 0, 0, 2, 0), 1, 1, 1, 0, 1, 0);
        dueOrder("150 and 150: the lowest, here", meshOf(0, 2, 0, 1, 2, 0), 0, 0, 0, 0, 1, 0);
        CHECK.sentence(23, "All divisions are rounded down. (the burden)");
        dueOrder("16 and 16, 33 and 33: the lowest", meshOf(0, 6, 0, 0, 3, 0), 0, 1, 0, 0, 1);
        dueOrder("14 and 12", meshOf(0, 7, 0, 0, 8, 0), 0, 1, 1, 0);
        dueOrder("66 of 200 and 66 of 400", meshOf(0, 3, 0, 0, 6, 0), 0, 1, 1, 0, 1, 1, 0);
    }

    private static void toldAndOld() {
        CHECK.sentence(23, "its load as told last, and the tries of this caller there since it was told");
        BrambleMesh x = meshOf(0, 1, 0, 0, 1, 0);
        x.work(0, 20);
        dueOrder("ahead of tick 5", x, 0, 1, 0);
        x.pass(4);
        dueOrder("in tick 4", x, 1);
        x.pass(1);
        CHECK.due("told of 0", x.load(0, false), 2);
        CHECK.due("told of 1", x.load(1, false), 2);
        dueOrder("in tick 5", x, 0, 1, 0);
        x.pass(4);
        CHECK.due("not told again", x.load(0, false), 2);
        dueOrder("in tick 9", x, 1, 0);
        CHECK.sentence(23, "the tries of this caller there since it was told (also one that is REFUSED at once)");
        BrambleMesh y = meshOf(0, 1, 0, 0, 1, 0);
        y.fault(0, DOWN, 1);
        dueOrder("REFUSED at 0", y, 0, 1, 0, 1);
        CHECK.sentence(23, "the tries of this caller there since it was told (also one that has ended)");
        BrambleMesh z = meshOf(0, 1, 0, 0, 1, 0);
        dueOrder("one", z, 0);
        z.pass(1);
        CHECK.due("it has ended", z.load(0, true), 0);
        dueOrder("the other one", z, 1);
        z.pass(4);
        dueOrder("told since", z, 0);
    }

    /** Told 1 and 2, weights 1 and 3: 100 and 66, and with one more try there 100 and 100. */
    private static void dividedTogether() {
        CHECK.sentence(23, "100 times its load as told last, and the tries of this caller there since it was told, together, divided");
        BrambleMesh x = meshOf(0, 1, 0, 0, 3, 0);
        x.work(0, 20);
        dueOrder("ahead of tick 5", x, 0, 1, 1);
        x.pass(5);
        CHECK.due("told", x.load(0, false) * 10 + x.load(1, false), 12);
        dueOrder("66 is less than 100, then both are 100", x, 1, 0, 1, 1);
    }

    private static void ofThisCaller() {
        CHECK.sentence(23, "the tries of this caller there (those of other callers do not count)");
        BrambleMesh x = new BrambleMesh();
        x.instance(0, 0, 1, 9, 9, 0);
        x.instance(1, 0, 1, 9, 9, 0);
        x.instance(1, 0, 1, 9, 9, 0);
        x.step(0, 1, true, NONE);
        x.request(0, true, 50);
        x.pass(1);
        CHECK.due("a try of service 0", x.call(1, 1), 1);
        CHECK.due("the CLIENT has had none there", chosenBy(x, 1), 1);
        CHECK.due("the CLIENT has had one there", chosenBy(x, 1), 2);
        x.request(0, true, 50);
        x.pass(1);
        CHECK.due("service 0 has had one there", x.call(x.calls() - 1, 1), 2);
        CHECK.sentence(23, "the tries of this caller there (those of its repairs as well)");
        BrambleMesh y = new BrambleMesh();
        y.policy(ALL, ALL, RETRIES, 0);
        y.instance(0, 0, 1, 9, 9, 0);
        y.instance(1, 0, 1, 9, 9, 0);
        y.instance(5, 0, 1, 9, 9, 0);
        y.instance(5, 0, 1, 9, 9, 0);
        y.step(0, 1, true, 5);
        y.fault(1, WRONG, 1);
        y.request(0, true, 50);
        y.request(0, true, 50);
        y.pass(2);
        CHECK.due("two repairs", y.repairs(false), 2);
        CHECK.due("at the first one", y.call(4, 1), 2);
        CHECK.due("then at the other one", y.call(5, 1), 3);
    }

    /** The call of service 0 at an instance of this zone; its step chooses between the zones 0, 1 and 2. */
    private static void zoneOfTheCaller(int zone) {
        BrambleMesh x = new BrambleMesh();
        x.instance(0, zone, 1, 9, 9, 0);
        for (int i = 0; i < 3; i++) {
            x.instance(1, i, 1, 9, 9, 0);
        }
        x.step(0, 1, true, NONE);
        x.request(0, true, 50);
        x.request(0, true, 50);
        x.request(0, true, 50);
        x.pass(1);
        CHECK.due("the zone " + zone + " first", x.call(3, 1), 1 + zone);
        CHECK.due("0 and 100 are less than 150", x.call(4, 1), 1 + zone);
        CHECK.due("200 are more than 150: the lowest of the others", x.call(5, 1), zone == 0 ? 2 : 1);
    }

    private static void zones() {
        CHECK.sentence(23, "another zone than the caller (the zone of the instance of the call whose step it is)");
        for (int zone = 0; zone <= 2; zone++) {
            zoneOfTheCaller(zone);
        }
        CHECK.sentence(23, "another zone than the caller (0 for requests and repairs)");
        BrambleMesh x = new BrambleMesh();
        x.policy(ALL, ALL, RETRIES, 0);
        x.instance(0, 2, 1, 9, 9, 0);
        x.instance(1, 2, 1, 9, 9, 0);
        x.instance(2, 2, 1, 9, 9, 0);
        x.instance(2, 0, 1, 9, 9, 0);
        x.step(0, 1, true, 2);
        x.step(0, 2, true, NONE);
        x.fault(2, WRONG, 1);
        x.request(0, true, 50);
        x.request(2, true, 50);
        CHECK.due("a request", x.call(1, 1), 3);
        x.pass(2);
        CHECK.due("a step of an instance in zone 2", x.call(3, 1), 2);
        x.pass(1);
        CHECK.due("a repair of its service", x.call(4, 7) * 10 + x.call(4, 1), 3);
    }

    private static void whereTheStepWasNot() {
        CHECK.sentence(23, "of these, if there are any, those at which the step has had no try");
        BrambleMesh x = meshOf(0, 9, 0, 2, 1, 0, 1, 3, 0);
        x.policy(CLIENT, 0, RETRIES, 3);
        for (int i = 0; i < 3; i++) {
            x.fault(i, WRONG, 1);
        }
        x.request(0, true, 50);
        x.pass(3);
        int[] due = {0, 1, 2, 0};
        for (int i = 0; i < due.length; i++) {
            CHECK.due("150 and 150 elsewhere, then where it was, try " + i, x.call(i, 1), due[i]);
        }
        CHECK.sentence(23, "those at which the step has had no try (a hedge as well, and tries of other steps do not count)");
        BrambleMesh y = meshOf(0, 9, 0, 2, 1, 0);
        y.work(0, 20);
        y.policy(CLIENT, 0, HEDGE, 1);
        y.request(0, true, 50);
        y.request(0, true, 50);
        y.pass(1);
        CHECK.due("first tries", y.call(0, 1) * 10 + y.call(1, 1), 0);
        CHECK.due("hedges", y.call(2, 1) * 10 + y.call(3, 1), 11);
        CHECK.sentence(23, "those at which the step has had no try (with one that can't be chosen left)");
        BrambleMesh z = meshOf(0, 9, 0, 0, 9, 0);
        z.fault(1, DOWN, 1);
        z.fault(0, WRONG, 1);
        z.policy(CLIENT, 0, RETRIES, 2);
        z.request(0, true, 50);
        z.pass(1);
        CHECK.due("FAILED, REFUSED, and out", z.calls(), 3);
        CHECK.due("instances", z.call(0, 1) * 100 + z.call(1, 1) * 10 + z.call(2, 1), 10);
        z.pass(1);
        z.request(0, true, 50);
        CHECK.due("one more at 1", z.breaker(CLIENT, 1), CLOSED);
        z.pass(1);
        CHECK.due("where it was, as the other one is OPEN or CLOSED", z.breaker(CLIENT, 0), OPEN);
    }

    // ---- canaries

    /** The versions of 160 tries of service 1, four for each request of service 0. */
    private static void dueVersions(int share, int restartAt) {
        BrambleMesh x = new BrambleMesh();
        x.policy(ALL, ALL, TIMEOUT, 100);
        x.instance(0, 0, 1, 9, 9, 0);
        x.instance(1, 0, 9, 9, 9, 0);
        x.instance(1, 0, 9, 9, 9, 1);
        for (int i = 0; i < 4; i++) {
            x.step(0, 1, true, NONE);
        }
        x.canary(1, share);
        int k = 0;
        for (int i = 0; i < 40; i++) {
            if (i == restartAt) {
                x.canary(1, share);
                k = 0;
            }
            int calls = x.calls();
            x.request(0, true, 90);
            x.pass(5);
            for (int call = calls + 1; call < calls + 5; call++) {
                k++;
                int due = k * share / 100 > (k - 1) * share / 100 ? 1 : 0;
                CHECK.due("share " + share + ", k " + k, x.call(call, 1) - 1, due);
            }
        }
        CHECK.due("the judge has nothing against it", x.canaryShare(1), share);
    }

    private static void versions() {
        CHECK.sentence(24, "1, if k times the share, divided by 100, is more than that of k less 1; otherwise 0.");
        for (int share : new int[] {1, 2, 7, 33, 49, 50, 51, 67, 99, 100}) {
            dueVersions(share, NONE);
        }
        CHECK.sentence(9, "Sets the canary share of a service; what was counted for it is 0 then. (k, also by the same share)");
        dueVersions(1, 20);
        dueVersions(30, 13);
        dueVersions(99, 1);
        CHECK.sentence(24, "Without a share above 0 none is wanted.");
        dueOrder("0 at first", meshOf(0, 1, 1, 0, 1, 0), 0, 1, 0, 1);
        BrambleMesh x = meshOf(0, 1, 1, 0, 1, 0);
        x.canary(0, 100);
        dueOrder("100", x, 0, 0);
        x.canary(0, 0);
        dueOrder("0 again: by the burden alone", x, 1, 1, 0, 1);
        x.canary(0, 50);
        dueOrder("tries without a share do not count", x, 1, 0, 1, 0);
        CHECK.sentence(24, "of these, if there are any, those of the version that is wanted");
        BrambleMesh y = meshOf(0, 1, 1, 0, 1, 1);
        y.canary(0, 1);
        dueOrder("none of version 0", y, 0, 1, 0);
        BrambleMesh z = meshOf(0, 1, 0, 0, 1, 0);
        z.canary(0, 100);
        dueOrder("none of version 1", z, 0, 1, 0);
        BrambleMesh w = meshOf(0, 9, 0, 1, 1, 1);
        w.canary(0, 100);
        dueOrder("ahead of the burden", w, 1, 1, 1);
    }

    private static void noTryAheadOfTheVersion() {
        CHECK.sentence(24, "of these, those at which the step has had no try; of these, if there are any, those of the version that is wanted");
        BrambleMesh x = meshOf(0, 9, 1, 2, 1, 0);
        x.canary(0, 100);
        x.policy(CLIENT, 0, RETRIES, 2);
        x.fault(0, WRONG, 1);
        x.fault(1, WRONG, 1);
        x.request(0, true, 50);
        x.pass(2);
        int[] due = {0, 1, 0};
        for (int i = 0; i < due.length; i++) {
            CHECK.due("1 is wanted, try " + i, x.call(i, 1), due[i]);
        }
        BrambleMesh y = meshOf(0, 9, 0, 0, 1, 1, 2, 1, 1);
        y.canary(0, 100);
        y.policy(CLIENT, 0, RETRIES, 2);
        for (int i = 0; i < 3; i++) {
            y.fault(i, WRONG, 1);
        }
        y.request(0, true, 50);
        y.pass(2);
        int[] dueOfThree = {1, 2, 0};
        for (int i = 0; i < dueOfThree.length; i++) {
            CHECK.due("1 is wanted, of three, try " + i, y.call(i, 1), dueOfThree[i]);
        }
    }

    private static void triesCount() {
        CHECK.sentence(24, "each try of a service counts while its canary share is above 0, also if nothing can be chosen");
        BrambleMesh x = meshOf();
        x.canary(0, 50);
        x.policy(CLIENT, 0, RETRIES, 2);
        CHECK.due("three tries without a call", chosenBy(x, 0), NONE);
        x.instance(0, 0, 1, 9, 9, 0);
        x.instance(0, 0, 1, 9, 9, 1);
        dueOrder("the fourth and on", x, 1, 0, 1);
        CHECK.sentence(24, "each try of a service counts (first tries, retries and hedges, those at one that is DOWN as well)");
        BrambleMesh y = meshOf(0, 9, 0, 0, 9, 0, 0, 9, 1);
        y.canary(0, 34);
        y.policy(CLIENT, 0, RETRIES, 1);
        y.fault(0, DOWN, 1);
        y.request(0, true, 50);
        CHECK.due("1 and 2 of version 0", y.call(0, 1) * 10 + y.call(1, 1), 1);
        CHECK.due("3", chosenBy(y, 0), 2);
        BrambleMesh z = meshOf(0, 9, 0, 0, 9, 1);
        z.canary(0, 50);
        z.work(0, 9);
        z.policy(CLIENT, 0, HEDGE, 1);
        z.request(0, true, 50);
        z.pass(1);
        CHECK.due("the hedge is 2", z.call(1, 1), 1);
        CHECK.due("3", chosenBy(z, 0), 0);
        CHECK.sentence(24, "each try of a service counts (of that service alone)");
        BrambleMesh w = meshOf(0, 9, 0, 0, 9, 1);
        w.canary(0, 50);
        w.canary(1, 50);
        w.request(1, true, 50);
        w.request(2, true, 50);
        dueOrder("those of others do not count", w, 0, 1, 0, 1);
    }

    /**
     * Ends that are looked at: 'a' OK and 'x' FAILED at the version 0, 'A' OK and 'X' FAILED at the version 1. With a share
     * of 50 the versions take turns; a turn that is not needed is taken by a request that is LATE, whose call nobody looks at.
     */
    private static void judge(BrambleMesh x, String ends) {
        int turn = 0;
        for (int i = 0; i < ends.length(); i++) {
            char end = ends.charAt(i);
            int version = end == 'A' || end == 'X' ? 1 : 0;
            if (turn % 2 != version) {
                x.work(0, 9);
                x.request(0, true, 1);
                x.pass(1);
                x.work(0, 1);
                turn++;
            }
            x.fault(version, WRONG, end == 'x' || end == 'X' ? 1 : 0);
            CHECK.due("the version for " + end, chosenBy(x, 0), version);
            x.pass(1);
            x.fault(version, WRONG, 0);
            turn++;
        }
    }

    private static void dueShare(String ends, int due) {
        BrambleMesh x = meshOf(0, 1, 0, 0, 1, 1);
        x.canary(0, 50);
        judge(x, ends);
        CHECK.due("behind " + ends, x.canaryShare(0), due);
    }

    private static void judges() {
        CHECK.sentence(24, "if there are 5 or more of the version 1");
        dueShare("aaaaXXAA", 50);
        dueShare("aaaaXXAAA", 0);
        dueShare("aXXA", 50);
        dueShare("aXXAAA", 0);
        dueShare("aaaaaaaaaaXXAA", 50);
        CHECK.sentence(24, "2 or more of these are not OK");
        dueShare("aaaaAAAAX", 50);
        dueShare("aaaaaaaaXAAAA", 50);
        dueShare("aaaaXAAAX", 0);
        dueShare("aaaaAAAAAAAAXX", 0);
        dueShare("aaaaAAAAAAAAX", 50);
        CHECK.sentence(24, "these times all of the version 0 are more than twice those of the version 0 that are not OK times all of the version 1");
        dueShare("axXXAAA", 50);
        dueShare("aaaaxXXAAA", 50);
        dueShare("aaaaaxXXAAA", 0);
        dueShare("aaaaxXXAAAa", 0);
        dueShare("aaaaaxxXXAAAXAA", 50);
        dueShare("aaaaaxxXXAXAA", 0);
        dueShare("aaaxXXAXA", 0);
        dueShare("aaxXXAXX", 0);
        dueShare("axXXAXX", 50);
        dueShare("aaxxaxxXXAXX", 50);
        CHECK.sentence(24, "these times all of the version 0 (none of that version)");
        dueShare("XXAXA", 50);
        dueShare("XAXAAAa", 0);
        dueShare("XAXAAAx", 50);
    }

    /** The share is set to what it is in between. */
    private static void dueShareAnew(String ends, String endsThen, int due) {
        BrambleMesh x = meshOf(0, 1, 0, 0, 1, 1);
        x.canary(0, 50);
        judge(x, ends);
        CHECK.due("behind " + ends, x.canary(0, 50), 50);
        judge(x, endsThen);
        CHECK.due("behind " + ends + " and then " + endsThen, x.canaryShare(0), due);
    }

    private static void judgesCountCalls() {
        CHECK.sentence(24, "The judge counts ends .. of calls at instances (a try that is REFUSED without a call is none)");
        BrambleMesh x = meshOf();
        x.canary(0, 50);
        for (int i = 0; i < 4; i++) {
            CHECK.due("without a call", chosenBy(x, 0), NONE);
        }
        x.instance(0, 0, 1, 9, 9, 0);
        x.instance(0, 0, 1, 9, 9, 1);
        judge(x, "aaXXAA");
        CHECK.due("ahead of the fifth", x.canaryShare(0), 50);
        judge(x, "A");
        CHECK.due("two OK at the version 0 alone", x.canaryShare(0), 0);
        CHECK.sentence(24, "The judge counts ends that are looked at (REFUSED and LATE ones are not OK)");
        BrambleMesh y = meshOf(0, 1, 0, 0, 1, 1);
        y.canary(0, 50);
        judge(y, "aaAAA");
        CHECK.due("the turn of the version 0", chosenBy(y, 0), 0);
        y.fault(1, DOWN, 1);
        CHECK.due("REFUSED", chosenBy(y, 0), 1);
        y.fault(1, DOWN, 0);
        y.pass(1);
        CHECK.due("the turn of the version 0 again", chosenBy(y, 0), 0);
        y.pass(1);
        y.policy(CLIENT, 0, TIMEOUT, 1);
        CHECK.due("the fifth of the version 1", chosenBy(y, 0), 1);
        CHECK.due("one is not OK", y.canaryShare(0), 50);
        y.pass(1);
        CHECK.due("LATE", y.call(y.calls() - 1, 2), BrambleMesh.LATE);
        CHECK.due("two are not OK", y.canaryShare(0), 0);
    }

    /** Ends at the version 1 alone, till there is an instance of the version 0, at which one is OK. */
    private static void judgesOfAnyShare() {
        CHECK.sentence(24, "The judge counts ends that are looked at, of calls at instances of a service with a share above 0");
        for (int share : new int[] {1, 2, 3, 50}) {
            BrambleMesh x = meshOf(0, 1, 1);
            x.canary(0, share);
            for (int i = 0; i < 5; i++) {
                x.fault(0, WRONG, i % 2);
                CHECK.due("an end at the version 1", chosenBy(x, 0), 0);
                x.pass(1);
            }
            CHECK.due("none of the version 0", x.canaryShare(0), share);
            x.canary(1, share);
            x.instance(0, 0, 1, 9, 9, 0);
            while (x.calls() < 9 && chosenBy(x, 0) != 1) {
                CHECK.due("the turn of the version 1", x.call(x.calls() - 1, 1), 0);
            }
            x.pass(1);
            CHECK.due("a share of " + share, x.canaryShare(0), 0);
            CHECK.due("of that service alone", x.canaryShare(1), share);
        }
    }

    private static void judgesCountAnew() {
        CHECK.sentence(9, "what was counted for it is 0 then (ends of both versions, OK and not)");
        dueShareAnew("aaXAXA", "A", 50);
        dueShareAnew("aaXAXA", "aAAAAA", 50);
        dueShareAnew("aaXAAAA", "aXAAAA", 50);
        dueShareAnew("xxaxx", "aXXAAA", 0);
        dueShareAnew("aaaaa", "XXAAA", 50);
        dueShareAnew("aaaaa", "xaXXAAA", 50);
        CHECK.sentence(24, "The judge counts ends that are looked at .. of a service with a share above 0, since it was set");
        BrambleMesh y = meshOf(0, 1, 0, 0, 1, 1);
        y.canary(0, 50);
        judge(y, "aaXXAAA");
        CHECK.due("0 by the judge", y.canaryShare(0), 0);
        CHECK.due("that is what it was", y.canary(0, 0), 0);
        y.fault(1, WRONG, 1);
        for (int i = 0; i < 4; i++) {
            y.request(0, true, 9);
            y.pass(1);
        }
        y.fault(1, WRONG, 0);
        y.canary(0, 50);
        judge(y, "aAAAAA");
        CHECK.due("ends without a share do not count", y.canaryShare(0), 50);
        CHECK.sentence(24, "the share becomes 0: then none is wanted");
        BrambleMesh z = meshOf(0, 1, 0, 0, 1, 1);
        z.canary(0, 50);
        judge(z, "aaXXAAA");
        z.pass(5);
        dueOrder("by the burden", z, 0, 1, 0, 1);
    }

    public static void main(String[] args) {
        threeInARow();
        halfBehindTenTicks();
        whenItIsHalf();
        noneWhileItIsOpen();
        halfWithoutATryThatIsOut();
        stepsThatAreOver();
        stepsOfCallsThatHaveEnded();
        shunned();
        leastBurden();
        toldAndOld();
        dividedTogether();
        ofThisCaller();
        zones();
        whereTheStepWasNot();
        versions();
        noTryAheadOfTheVersion();
        triesCount();
        judges();
        judgesCountCalls();
        judgesOfAnyShare();
        judgesCountAnew();
        CHECK.end();
    }
}
