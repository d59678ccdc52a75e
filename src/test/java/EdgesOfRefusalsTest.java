import java.util.ArrayList;
import java.util.List;

/**
 * "A call of a method that throws an exception changes nothing": two meshes live through the same calls, one of them with
 * refused calls ahead of each, and answer the same, also about what can't be asked without being set.
 */
public final class EdgesOfRefusalsTest {
    private static final int NONE = BrambleMesh.NONE;
    private static final int CLIENT = BrambleMesh.CLIENT;
    private static final int SLOW = BrambleMesh.SLOW, WRONG = BrambleMesh.WRONG, LOST = BrambleMesh.LOST, DOWN = BrambleMesh.DOWN;
    private static final int TIMEOUT = BrambleMesh.TIMEOUT, RETRIES = BrambleMesh.RETRIES, HEDGE = BrambleMesh.HEDGE;
    private static final String CHANGES_NOTHING = "A call of a method that throws an exception changes nothing.";
    private static final Check CHECK = new Check();

    private interface Act {
        long on(BrambleMesh x);
    }

    private record Refused(int promise, Act act) {
    }

    /** Calls that are refused in any state of a mesh with 4 instances at the most ahead of number 12. */
    private static List<Refused> alwaysRefused() {
        List<Refused> all = new ArrayList<>();
        all.add(new Refused(2, x -> x.work(0, 51)));
        all.add(new Refused(2, x -> x.work(1, -1)));
        all.add(new Refused(2, x -> x.work(6, 9)));
        all.add(new Refused(3, x -> x.step(0, 0, true, NONE)));
        all.add(new Refused(3, x -> x.step(1, 2, true, 1)));
        all.add(new Refused(3, x -> x.step(0, 1, true, 6)));
        all.add(new Refused(3, x -> x.step(0, -1, true, NONE)));
        all.add(new Refused(4, x -> x.instance(0, 0, 1, 1, 0, 2)));
        all.add(new Refused(4, x -> x.instance(0, 0, 1, 1, 10, 0)));
        all.add(new Refused(4, x -> x.instance(6, 0, 1, 1, 0, 0)));
        all.add(new Refused(5, x -> x.fault(0, SLOW, 51)));
        all.add(new Refused(5, x -> x.fault(0, DOWN, 2)));
        all.add(new Refused(5, x -> x.fault(0, 4, 1)));
        all.add(new Refused(5, x -> x.fault(12, DOWN, 1)));
        all.add(new Refused(6, x -> x.policy(0, NONE, TIMEOUT, 1)));
        all.add(new Refused(6, x -> x.policy(NONE, NONE, TIMEOUT, 101)));
        all.add(new Refused(6, x -> x.policy(CLIENT, 0, RETRIES, 4)));
        all.add(new Refused(6, x -> x.policy(NONE, 1, HEDGE, 51)));
        all.add(new Refused(6, x -> x.policy(0, 1, 3, 1)));
        all.add(new Refused(6, x -> x.policy(NONE, 6, RETRIES, 0)));
        all.add(new Refused(7, x -> x.share(CLIENT, 101)));
        all.add(new Refused(7, x -> x.share(7, 0)));
        all.add(new Refused(8, x -> x.eyes(0)));
        all.add(new Refused(8, x -> x.eyes(8)));
        all.add(new Refused(9, x -> x.canary(0, 101)));
        all.add(new Refused(9, x -> x.canary(1, -1)));
        all.add(new Refused(9, x -> x.canary(6, 0)));
        all.add(new Refused(10, x -> noAnswer(x, 11, 1)));
        all.add(new Refused(10, x -> noAnswer(x, 1, 601)));
        all.add(new Refused(10, x -> noAnswer(x, 0, 600)));
        all.add(new Refused(11, x -> x.request(0, true, 201)));
        all.add(new Refused(11, x -> x.request(0, true, 0)));
        all.add(new Refused(11, x -> x.request(6, true, 9)));
        all.add(new Refused(12, x -> x.pass(0)));
        all.add(new Refused(12, x -> x.pass(51)));
        all.add(new Refused(14, x -> x.requestState(40)));
        all.add(new Refused(15, x -> x.requestTicks(40)));
        all.add(new Refused(16, x -> x.isKept(-1) ? 1 : 0));
        all.add(new Refused(17, x -> x.callsOf(40)));
        all.add(new Refused(19, x -> x.call(400, 0)));
        all.add(new Refused(20, x -> x.budget(7)));
        all.add(new Refused(21, x -> x.breaker(7, 0)));
        all.add(new Refused(21, x -> x.breaker(0, 12)));
        all.add(new Refused(22, x -> x.isShunned(12) ? 1 : 0));
        all.add(new Refused(23, x -> x.load(12, true)));
        all.add(new Refused(24, x -> x.canaryShare(6)));
        all.add(new Refused(26, x -> x.extra(-1)));
        all.add(new Refused(27, x -> x.first(-1)));
        return all;
    }

    private static long noAnswer(BrambleMesh x, int rate, int limit) {
        x.traces(rate, limit);
        return 0;
    }

    /** A long life: hedges, retries, breakers, a canary that is judged, repairs, traces. */
    private static List<Act> life() {
        List<Act> all = new ArrayList<>();
        all.add(x -> x.step(0, 1, true, 3));
        all.add(x -> x.step(0, 2, false, NONE));
        all.add(x -> x.step(1, 2, true, 3));
        all.add(x -> x.instance(0, 0, 2, 4, 2, 0));
        all.add(x -> x.instance(1, 0, 1, 3, 2, 0));
        all.add(x -> x.instance(1, 1, 3, 3, 2, 1));
        all.add(x -> x.instance(2, 0, 1, 3, 2, 0));
        all.add(x -> x.instance(3, 0, 1, 2, 1, 0));
        all.add(x -> x.policy(0, 1, HEDGE, 3));
        all.add(x -> x.policy(NONE, 1, RETRIES, 2));
        all.add(x -> x.policy(NONE, NONE, TIMEOUT, 9));
        all.add(x -> x.share(0, 25));
        all.add(x -> x.eyes(2));
        all.add(x -> x.canary(1, 40));
        all.add(x -> x.work(1, 2));
        all.add(x -> noAnswer(x, 3, 6));
        for (int i = 0; i < 30; i++) {
            int turn = i;
            all.add(x -> x.request(turn % 3, turn % 2 == 0, 8 + turn));
            all.add(x -> x.fault(turn % 5, turn % 4, turn % 3 == 0 ? 1 : 0));
            all.add(x -> x.pass(1 + turn % 4));
            if (i == 15) {
                all.add(x -> x.canary(1, 70));
            }
        }
        return all;
    }

    private static void refuse(BrambleMesh x, Refused refused) {
        CHECK.sentence(refused.promise(), CHANGES_NOTHING);
        boolean isRefused = false;
        try {
            refused.act().on(x);
        } catch (IndexOutOfBoundsException | IllegalArgumentException | IllegalStateException e) {
            isRefused = Check.isThrownByTheClass(e);
        }
        CHECK.due("it is refused", isRefused, true);
    }

    /** What can't be asked without being set: it is set to the same in both, and what it was is compared. */
    private static void sameSettings(BrambleMesh x, BrambleMesh y) {
        for (int service = 0; service <= 5; service++) {
            CHECK.due("work of " + service, x.work(service, 1), y.work(service, 1));
            CHECK.due("canary share of " + service, x.canary(service, 0), y.canary(service, 0));
        }
        for (int caller = 0; caller <= 6; caller++) {
            CHECK.due("share of " + caller, x.share(caller, 1), y.share(caller, 1));
        }
        CHECK.due("eyes", x.eyes(1), y.eyes(1));
        for (int part = 0; part <= 2; part++) {
            CHECK.due("policy for all, part " + part, x.policy(NONE, NONE, part, 1), y.policy(NONE, NONE, part, 1));
            for (int caller = NONE; caller <= 6; caller++) {
                for (int service = 0; service <= 5; service++) {
                    int was = x.policy(caller, service, part, 1);
                    CHECK.due("policy of " + caller + " for " + service, was, y.policy(caller, service, part, 1));
                }
            }
        }
        for (int instance = 0; instance < 5; instance++) {
            for (int what = SLOW; what <= DOWN; what++) {
                CHECK.due("fault of " + instance, x.fault(instance, what, 0), y.fault(instance, what, 0));
            }
        }
    }

    private static void liveTwice(List<Refused> refusals) {
        BrambleMesh x = new BrambleMesh();
        BrambleMesh y = new BrambleMesh();
        List<Act> life = life();
        for (int i = 0; i < life.size(); i++) {
            for (Refused refused : refusals) {
                refuse(x, refused);
            }
            CHECK.due("answer " + i + " behind refused calls", life.get(i).on(x), life.get(i).on(y));
            CHECK.due("all answers behind call " + i, Check.answersOf(x).equals(Check.answersOf(y)), true);
        }
        sameSettings(x, y);
    }

    /** One kind of refused calls at a time, and all of them together. */
    private static void refusedInAnyState() {
        List<Refused> all = alwaysRefused();
        for (Refused refused : all) {
            liveTwice(List.of(refused));
        }
        liveTwice(all);
    }

    /** What is refused by the state alone: a request was made, and all is full. */
    private static void refusedByTheState() {
        BrambleMesh x = fullMesh();
        BrambleMesh y = fullMesh();
        List<Refused> refusals = List.of(
                new Refused(3, z -> z.step(0, 1, true, NONE)),
                new Refused(3, z -> z.step(4, 5, true, NONE)),
                new Refused(4, z -> z.instance(0, 0, 1, 1, 0, 0)),
                new Refused(11, z -> z.request(0, true, 9)),
                new Refused(11, z -> z.request(5, false, 9)));
        for (int i = 0; i < 12; i++) {
            for (Refused refused : refusals) {
                refuse(x, refused);
            }
            CHECK.due("the tick", x.pass(50), y.pass(50));
            CHECK.due("all answers", Check.answersOf(x).equals(Check.answersOf(y)), true);
        }
        for (int ticks = 1; ticks <= 50; ticks++) {
            int more = ticks;
            refuse(x, new Refused(12, z -> z.pass(more)));
            CHECK.due("all answers behind the end", Check.answersOf(x).equals(Check.answersOf(y)), true);
        }
        CHECK.due("the last tick", x.tick(), 600);
    }

    /** 12 instances, 40 requests, and a plan of 4 steps. */
    private static BrambleMesh fullMesh() {
        BrambleMesh x = new BrambleMesh();
        for (int i = 0; i < 4; i++) {
            x.step(0, 1 + i, i % 2 == 0, 5);
        }
        for (int i = 0; i < 12; i++) {
            x.instance(i % 6, i % 3, 1 + i % 4, 4, 2, i % 2);
        }
        x.fault(3, WRONG, 1);
        x.fault(10, LOST, 1);
        for (int i = 0; i < 40; i++) {
            x.request(i % 6, i % 2 == 0, 20 + 4 * i);
        }
        return x;
    }

    public static void main(String[] args) {
        refusedInAnyState();
        refusedByTheState();
        CHECK.end();
    }
}
