/** Long runs of any calls, wrong ones among them: nothing else is thrown than the document says, and what must always hold, holds. */
public final class AnyCallsTest {
    private static final int RUNS = 400;
    private static final int CALLS = 512;
    private static final int[] ODD = {Integer.MIN_VALUE, -2, -1, 12, 40, 601, Integer.MAX_VALUE};
    private static final Check CHECK = new Check();

    private long seed;

    private AnyCallsTest(long seed) {
        this.seed = seed;
    }

    private int below(int bound) {
        seed = seed * 6364136223846793005L + 1442695040888963407L;
        return (int) ((seed >>> 33) % bound);
    }

    /** Mostly least to most, seldom just outside or far away. */
    private int some(int least, int most) {
        int kind = below(50);
        if (kind == 0) {
            return ODD[below(ODD.length)];
        }
        return kind == 1 ? most + 1 : kind == 2 ? least - 1 : least + below(most - least + 1);
    }

    private long set(BrambleMesh x) {
        switch (below(11)) {
            case 0: return x.work(some(0, 5), some(0, below(3) == 0 ? 50 : 3));
            case 1: case 2: case 3: return x.step(some(0, 4), some(1, 5), below(2) == 0, some(-1, 5));
            case 4: case 5: case 6: return x.instance(some(0, 5), some(0, 2), some(1, 9), some(1, 4), some(0, 3), some(0, 1));
            case 7: return x.policy(some(-1, 6), some(-1, 5), some(0, 2), some(0, 4));
            case 8: return x.share(some(0, 6), some(0, 100));
            case 9: return x.canary(some(0, 5), some(0, 100));
            default:
                if (below(2) == 0) {
                    return x.eyes(some(1, 7));
                }
                x.traces(some(1, 10), some(1, 60));
                return 0;
        }
    }

    private long ask(BrambleMesh x) {
        switch (below(14)) {
            case 0: return x.tick();
            case 1: return x.requestState(some(0, 39));
            case 2: return x.requestTicks(some(0, 39));
            case 3: return x.isKept(some(0, 39)) ? 1 : 0;
            case 4: return x.callsOf(some(0, 39));
            case 5: return x.calls();
            case 6: return x.call(some(0, 60), some(0, 7));
            case 7: return x.budget(some(0, 6));
            case 8: return x.breaker(some(0, 6), some(0, 11));
            case 9: return x.isShunned(some(0, 11)) ? 1 : 0;
            case 10: return x.load(some(0, 11), below(2) == 0);
            case 11: return x.canaryShare(some(0, 5));
            case 12: return x.repairs(below(2) == 0);
            default: return x.extra(some(0, 6)) * 1000L + x.first(some(0, 6));
        }
    }

    private long one(BrambleMesh x, int at) {
        if (at < 40) {
            return set(x);
        }
        switch (below(8)) {
            case 0: case 1: return x.request(some(0, 3), below(2) == 0, some(1, 60));
            case 2: case 3: return x.pass(some(1, below(4) == 0 ? 50 : 3));
            case 4: return x.fault(some(0, 11), some(0, 3), below(3) == 0 ? some(0, 50) : below(2));
            case 5: return set(x);
            default: return ask(x);
        }
    }

    /** All answers of a run, in one number. */
    private long run() {
        BrambleMesh x = new BrambleMesh();
        long all = 0;
        for (int i = 0; i < CALLS; i++) {
            long answer;
            try {
                answer = one(x, i);
            } catch (IndexOutOfBoundsException | IllegalArgumentException | IllegalStateException e) {
                CHECK.due("thrown by the class itself: " + e, Check.isThrownByTheClass(e), true);
                answer = e.getClass().getName().length();
            }
            all = all * 31 + answer;
            if (i % 16 == 0) {
                holds(x);
            }
        }
        holds(x);
        return all * 31 + Check.answersOf(x).hashCode();
    }

    private static void holds(BrambleMesh x) {
        boolean isFine = x.tick() >= 0 && x.tick() <= 600 && x.calls() <= 400;
        isFine &= x.repairs(true) <= x.repairs(false) && x.repairs(false) <= 100;
        for (int caller = 0; caller <= 6; caller++) {
            isFine &= x.budget(caller) >= 0 && x.budget(caller) <= 1000;
        }
        int[] loads = new int[12];
        for (int call = 0; call < x.calls(); call++) {
            int parent = x.call(call, 4);
            boolean isGoing = x.call(call, 2) < BrambleMesh.OK;
            loads[x.call(call, 1)] += isGoing ? 1 : 0;
            isFine &= !isGoing || x.call(call, 3) > x.tick();
            if (parent != BrambleMesh.NONE) {
                isFine &= parent < call && x.call(parent, 3) >= x.call(call, 3) && x.call(parent, 0) < x.call(call, 0);
                isFine &= !isGoing || x.call(parent, 2) == BrambleMesh.CALLING;
                isFine &= x.call(parent, 5) == x.call(call, 5);
            }
            isFine &= (x.call(call, 7) == BrambleMesh.NONE) || parent == BrambleMesh.NONE;
        }
        for (int instance = 0; instance < loads.length && loads[instance] > 0; instance++) {
            isFine &= x.load(instance, true) == loads[instance];
        }
        CHECK.due("what must always hold", isFine, true);
    }

    public static void main(String[] args) {
        for (int i = 0; i < RUNS; i++) {
            long first = new AnyCallsTest(i).run();
            CHECK.due("run " + i + " twice the same", new AnyCallsTest(i).run() == first, true);
        }
        CHECK.end();
    }
}
