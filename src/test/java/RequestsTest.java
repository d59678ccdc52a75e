/** Promises 11 to 19: requests, ticks that pass, and what is asked of requests and calls. */
public final class RequestsTest {
    private static final int ALL = BrambleMesh.NONE;
    private static final int NONE = BrambleMesh.NONE;
    private static final Check CHECK = new Check();

    /** One instance with room for all, in each of the services 0 to 2. */
    private static BrambleMesh wideMesh() {
        BrambleMesh x = new BrambleMesh();
        for (int service = 0; service <= 2; service++) {
            x.instance(service, 0, 1, 9, 9, 0);
        }
        return x;
    }

    private static void promise11Request() {
        BrambleMesh x = wideMesh();
        CHECK.refused("request: service -1", x, Check.NO_SUCH, () -> x.request(-1, true, 5));
        CHECK.refused("request: service 6", x, Check.NO_SUCH, () -> x.request(6, true, 0));
        CHECK.refused("request: ticks 0", x, Check.BAD, () -> x.request(0, true, 0));
        CHECK.refused("request: ticks 201", x, Check.BAD, () -> x.request(0, true, 201));
        for (int i = 0; i < 40; i++) {
            CHECK.due("number", x.request(i % 3, i % 2 == 0, i == 0 ? 200 : 1), i);
        }
        CHECK.refused("request: a 41st", x, Check.NOT_NOW, () -> x.request(0, true, 5));
        CHECK.refused("request: a 41st out of range", x, Check.BAD, () -> x.request(0, true, 201));
        CHECK.refused("request: a 41st of no service", x, Check.NO_SUCH, () -> x.request(6, true, 201));
    }

    private static void promise11TheFirstTryIsMadeAtOnce() {
        BrambleMesh x = wideMesh();
        x.pass(3);
        x.request(1, false, 7);
        CHECK.due("a call", x.calls(), 1);
        CHECK.due("its state", x.call(0, 2), BrambleMesh.RUNNING);
        CHECK.due("its deadline", x.call(0, 3), 10);
        x.request(3, false, 7);
        CHECK.due("without an instance it fails at once", x.requestState(1), BrambleMesh.FAILED);
        CHECK.due("in no tick", x.requestTicks(1), 0);
        CHECK.due("a first try and a retry without calls", x.calls(), 1);
        CHECK.due("first tries", x.first(BrambleMesh.CLIENT), 2);
        CHECK.due("a retry", x.extra(BrambleMesh.CLIENT), 1);
    }

    private static void promise12Pass() {
        BrambleMesh x = wideMesh();
        CHECK.refused("pass: 0", x, Check.BAD, () -> x.pass(0));
        CHECK.refused("pass: -1", x, Check.BAD, () -> x.pass(-1));
        CHECK.refused("pass: 51", x, Check.BAD, () -> x.pass(51));
        x.request(0, true, 200);
        CHECK.due("pass 1", x.pass(1), 1);
        CHECK.due("the tick", x.tick(), 1);
        for (int i = 1; i <= 11; i++) {
            CHECK.due("pass 50", x.pass(50), 1 + 50 * i);
        }
        CHECK.refused("pass: to 601", x, Check.NOT_NOW, () -> x.pass(50));
        CHECK.due("pass to 599", x.pass(48), 599);
        CHECK.refused("pass: to 601 by 2", x, Check.NOT_NOW, () -> x.pass(2));
        CHECK.due("pass to 600", x.pass(1), 600);
        CHECK.refused("pass: to 601 by 1", x, Check.NOT_NOW, () -> x.pass(1));
        CHECK.refused("pass: out of range ahead of the end", x, Check.BAD, () -> x.pass(51));
        CHECK.due("the last tick", x.tick(), 600);
        CHECK.due("a request at the end", x.request(0, true, 200), 1);
        CHECK.due("its deadline", x.call(1, 3), 620);
    }

    private static void promise13TickByTickAsAtOnce() {
        BrambleMesh x = wideMesh();
        BrambleMesh y = wideMesh();
        for (BrambleMesh mesh : new BrambleMesh[] {x, y}) {
            mesh.step(0, 1, true, 2);
            mesh.step(0, 2, false, NONE);
            mesh.fault(2, BrambleMesh.WRONG, 1);
            mesh.request(0, true, 30);
            mesh.request(1, true, 30);
        }
        x.pass(12);
        for (int i = 1; i <= 12; i++) {
            CHECK.due("tick", y.pass(1), i);
            CHECK.due("tick asked", y.tick(), i);
        }
        CHECK.due("the same answers", Check.answersOf(x).equals(Check.answersOf(y)), true);
    }

    private static void promise14StatesOfRequests() {
        BrambleMesh x = wideMesh();
        x.policy(ALL, ALL, BrambleMesh.RETRIES, 0);
        x.fault(1, BrambleMesh.WRONG, 1);
        x.fault(2, BrambleMesh.LOST, 1);
        x.request(0, true, 9);
        x.request(1, true, 9);
        x.request(2, true, 9);
        x.request(3, true, 9);
        CHECK.due("GOING", x.requestState(0), BrambleMesh.GOING);
        CHECK.due("FAILED at once", x.requestState(3), BrambleMesh.FAILED);
        x.pass(1);
        CHECK.due("OK", x.requestState(0), BrambleMesh.OK);
        CHECK.due("FAILED", x.requestState(1), BrambleMesh.FAILED);
        CHECK.due("OK, but the reply is lost", x.call(2, 2), BrambleMesh.OK);
        CHECK.due("GOING without a reply", x.requestState(2), BrambleMesh.GOING);
        x.pass(7);
        CHECK.due("GOING ahead of the deadline", x.requestState(2), BrambleMesh.GOING);
        x.pass(1);
        CHECK.due("LATE", x.requestState(2), BrambleMesh.LATE);
        CHECK.refused("state: -1", x, Check.NO_SUCH, () -> x.requestState(-1));
        CHECK.refused("state: 4", x, Check.NO_SUCH, () -> x.requestState(4));
    }

    private static void promise15TicksOfRequests() {
        BrambleMesh x = wideMesh();
        x.work(0, 3);
        x.pass(2);
        x.request(0, true, 9);
        CHECK.due("none yet", x.requestTicks(0), 0);
        x.pass(2);
        CHECK.due("up to now", x.requestTicks(0), 2);
        x.pass(5);
        CHECK.due("up to its end", x.requestTicks(0), 3);
        x.work(0, 30);
        x.request(0, true, 9);
        x.pass(20);
        CHECK.due("up to its deadline", x.requestTicks(1), 9);
        CHECK.refused("ticks: -1", x, Check.NO_SUCH, () -> x.requestTicks(-1));
        CHECK.refused("ticks: 2", x, Check.NO_SUCH, () -> x.requestTicks(2));
    }

    private static void promise16TracesKept() {
        BrambleMesh x = wideMesh();
        CHECK.refused("kept: -1", x, Check.NO_SUCH, () -> x.isKept(-1));
        CHECK.refused("kept: 0", x, Check.NO_SUCH, () -> x.isKept(0));
        x.work(0, 5);
        x.traces(3, 5);
        x.request(0, true, 20);
        x.request(0, true, 20);
        x.work(0, 6);
        x.request(0, true, 20);
        x.request(0, true, 2);
        x.request(0, true, 2);
        CHECK.due("by the head while it goes", x.isKept(0) && x.isKept(3), true);
        CHECK.due("by the head alone while it goes", x.isKept(1) || x.isKept(2) || x.isKept(4), false);
        x.pass(2);
        CHECK.due("by the tail, LATE", x.isKept(4), true);
        x.pass(3);
        CHECK.due("behind 5 ticks, OK", x.requestState(1), BrambleMesh.OK);
        CHECK.due("not more ticks than the limit", x.isKept(1), false);
        CHECK.due("by the head, OK", x.isKept(0), true);
        x.pass(1);
        CHECK.due("behind 6 ticks, OK", x.requestState(2), BrambleMesh.OK);
        CHECK.due("more ticks than the limit", x.isKept(2), true);
        x.traces(1, 600);
        CHECK.due("as the rate was at its end", x.isKept(1), false);
        CHECK.due("as the limit was at its end", x.isKept(2), true);
        x.traces(10, 1);
        CHECK.due("the head as it was at its end", x.isKept(0) && x.isKept(3), true);
        x.request(4, true, 20);
        CHECK.due("by the tail, FAILED at once", x.isKept(5), true);
    }

    private static void promise16TicksSinceItWasMade() {
        BrambleMesh x = wideMesh();
        x.request(1, true, 20);
        x.pass(40);
        x.request(1, true, 20);
        x.pass(2);
        CHECK.due("1 tick, though late in time", x.isKept(1), false);
    }

    private static void promise16TheLimitAtFirst() {
        BrambleMesh x = wideMesh();
        x.policy(ALL, ALL, BrambleMesh.TIMEOUT, 100);
        x.request(1, true, 99);
        x.work(0, 30);
        x.request(0, true, 99);
        x.work(0, 31);
        x.request(0, true, 99);
        x.pass(31);
        CHECK.due("30 ticks are not more than 30", x.isKept(1), false);
        CHECK.due("31 ticks are more than 30", x.isKept(2), true);
    }

    private static void promise17CallsOfRequests() {
        BrambleMesh x = wideMesh();
        x.step(0, 1, true, 2);
        x.step(0, 1, true, NONE);
        x.step(1, 2, true, NONE);
        x.request(0, true, 30);
        x.request(2, true, 30);
        CHECK.due("one each", x.callsOf(0) * 10 + x.callsOf(1), 11);
        x.pass(10);
        CHECK.due("those of calls counted", x.callsOf(0), 5);
        CHECK.due("of the other", x.callsOf(1), 1);
        CHECK.due("all", x.calls(), 6);
        CHECK.refused("calls of: -1", x, Check.NO_SUCH, () -> x.callsOf(-1));
        CHECK.refused("calls of: 2", x, Check.NO_SUCH, () -> x.callsOf(2));
    }

    private static void promise17RepairsAreOfNoRequest() {
        BrambleMesh x = wideMesh();
        x.step(0, 1, true, 2);
        x.work(1, 9);
        x.request(0, true, 3);
        x.pass(4);
        CHECK.due("the call that undoes", x.calls(), 3);
        CHECK.due("is of no request", x.call(2, 5), NONE);
        CHECK.due("and not counted", x.callsOf(0), 2);
    }

    private static void promise18Calls() {
        BrambleMesh x = wideMesh();
        x.fault(0, BrambleMesh.DOWN, 1);
        x.request(0, true, 9);
        CHECK.due("those that are refused at an instance count", x.calls(), 2);
        x.request(5, true, 9);
        CHECK.due("those without an instance do not", x.calls(), 2);
    }

    private static void dueCall(BrambleMesh x, int call, int... parts) {
        for (int part = 0; part < parts.length; part++) {
            CHECK.due("call " + call + " part " + part, x.call(call, part), parts[part]);
        }
    }

    private static void promise19Call() {
        BrambleMesh x = wideMesh();
        x.step(0, 1, true, 2);
        x.step(0, 2, false, NONE);
        x.step(2, 3, true, NONE);
        x.policy(0, 1, BrambleMesh.TIMEOUT, 6);
        x.instance(3, 0, 1, 9, 0, 0);
        x.request(3, true, 40);
        x.request(0, true, 15);
        dueCall(x, 0, 3, 3, BrambleMesh.RUNNING, 20, NONE, 0, 0, NONE);
        dueCall(x, 1, 0, 0, BrambleMesh.RUNNING, 15, NONE, 1, 0, NONE);
        x.pass(1);
        dueCall(x, 0, 3, 3, BrambleMesh.OK, 20, NONE, 0, 0, NONE);
        dueCall(x, 1, 0, 0, BrambleMesh.CALLING, 15, NONE, 1, 1, NONE);
        dueCall(x, 2, 1, 1, BrambleMesh.RUNNING, 7, 1, 1, 0, NONE);
        x.fault(3, BrambleMesh.WRONG, 1);
        x.pass(3);
        dueCall(x, 3, 2, 2, BrambleMesh.CALLING, 15, 1, 1, 1, NONE);
        dueCall(x, 5, 3, 3, BrambleMesh.RUNNING, 15, 3, 1, 0, NONE);
        x.pass(1);
        dueCall(x, 1, 0, 0, BrambleMesh.FAILED, 15, NONE, 1, 2, NONE);
        dueCall(x, 3, 2, 2, BrambleMesh.FAILED, 15, 1, 1, 1, NONE);
        dueCall(x, 6, 0, 0, BrambleMesh.RUNNING, 15, NONE, 1, 0, NONE);
        dueCall(x, 7, 2, 2, BrambleMesh.RUNNING, 25, NONE, NONE, 0, 0);
        x.fault(3, BrambleMesh.WRONG, 0);
        x.pass(1);
        dueCall(x, 7, 2, 2, BrambleMesh.CALLING, 25, NONE, NONE, 1, 0);
        int last = x.calls() - 1;
        CHECK.due("the call of a call of a repair", x.call(last, 4) == 7 || x.call(last - 1, 4) == 7, true);
        int nested = x.call(last, 4) == 7 ? last : last - 1;
        dueCall(x, nested, 3, 3, BrambleMesh.RUNNING, 25, 7, NONE, 0, NONE);
        CHECK.refused("call: -1", x, Check.NO_SUCH, () -> x.call(-1, 0));
        CHECK.refused("call: too many", x, Check.NO_SUCH, () -> x.call(x.calls(), 8));
        CHECK.refused("call: part -1", x, Check.BAD, () -> x.call(0, -1));
        CHECK.refused("call: part 8", x, Check.BAD, () -> x.call(0, 8));
    }

    private static void promise19StatesOfCalls() {
        BrambleMesh x = wideMesh();
        x.instance(3, 0, 1, 1, 1, 0);
        x.step(0, 3, true, NONE);
        x.work(3, 4);
        x.request(3, true, 40);
        x.request(0, true, 3);
        x.pass(1);
        CHECK.due("QUEUED", x.call(2, 2), BrambleMesh.QUEUED);
        CHECK.due("its load", x.load(3, true), 2);
        x.pass(2);
        CHECK.due("LATE", x.call(1, 2), BrambleMesh.LATE);
        CHECK.due("OFF, also from the queue", x.call(2, 2), BrambleMesh.OFF);
        CHECK.due("its place is free", x.load(3, true), 1);
        x.request(3, true, 40);
        CHECK.due("for another one", x.call(3, 2), BrambleMesh.QUEUED);
        x.request(3, true, 40);
        CHECK.due("REFUSED", x.call(4, 2), BrambleMesh.REFUSED);
    }

    public static void main(String[] args) {
        promise11Request();
        promise11TheFirstTryIsMadeAtOnce();
        promise12Pass();
        promise13TickByTickAsAtOnce();
        promise14StatesOfRequests();
        promise15TicksOfRequests();
        promise16TracesKept();
        promise16TicksSinceItWasMade();
        promise16TheLimitAtFirst();
        promise17CallsOfRequests();
        promise17RepairsAreOfNoRequest();
        promise18Calls();
        promise19Call();
        promise19StatesOfCalls();
        CHECK.end();
    }
}
