import java.util.ArrayList;
import java.util.List;

/**
 * The document once more, written apart from the class and as plainly as can be: what can be counted anew from all calls
 * is counted anew each time. It takes right arguments alone; ModelTest compares its answers with those of the class.
 */
final class Model {
    private static final int NONE = -1;
    private static final int CLIENT = 6;
    private static final int QUEUED = 0, RUNNING = 1, CALLING = 2, OK = 3, FAILED = 4, LATE = 5, REFUSED = 6, OFF = 7, GOING = 8;
    private static final int CLOSED = 0, OPEN = 1, HALF = 2;

    /** A call of a service that a plan asks for. */
    private record Planned(int called, boolean isSafe, int undo) {
    }

    private static final class Machine {
        int number;
        int service;
        int zone;
        int weight;
        int slots;
        int room;
        int version;
        int[] faults = new int[4];
        int[] breaker = new int[7];
        int[] inRow = new int[7];
        int[] openedAt = new int[7];
        int told;
        int callsAsTold;
    }

    private static final class Job {
        int number;
        Task of;
        Machine at;
        int deadline;
        int state;
        int beganAt = NONE;
        int doneAt;
        int endedAt = NONE;
        boolean isLost;
        boolean isLookedAt;
        List<Task> tasks = new ArrayList<>();

        boolean hasEnded() {
            return state > CALLING;
        }
    }

    /** A step: of a request, of a call, or a repair. */
    private static final class Task {
        int caller;
        Planned planned;
        Job job;
        int request = NONE;
        int repair = NONE;
        List<Job> jobs = new ArrayList<>();
        int tries;
        int retries;
        int beganAt;
        int lastEnd = NONE;
        /** GOING, OK or FAILED. */
        int state = GOING;
    }

    private static final class Wish {
        Task task = new Task();
        int madeAt;
        int deadline;
        int state = GOING;
        int endedAt;
        boolean isKept;
    }

    private final int[] works = {1, 1, 1, 1, 1, 1};
    private final List<List<Planned>> plans = new ArrayList<>();
    private final List<Machine> machines = new ArrayList<>();
    private final List<Job> jobs = new ArrayList<>();
    private final List<Wish> wishes = new ArrayList<>();
    private final List<Task> repairs = new ArrayList<>();
    /** By part, caller and service, each 1 more than told, so that NONE has a place. */
    private final int[][][] policies = new int[3][8][7];
    private final int[] budgets = new int[7];
    private final int[] shares = new int[7];
    private final int[] firsts = new int[7];
    private final int[] extras = new int[7];
    private final int[] canaries = new int[6];
    private final int[] canaryTries = new int[6];
    /** By service: the ends that were looked at, each 2 times the version, and 1 more if it is OK. */
    private final List<List<Integer>> judged = new ArrayList<>();
    private int now;
    private int eyesThatShun = 3;
    private int rate = 4;
    private int limit = 30;

    Model() {
        for (int i = 0; i < 6; i++) {
            plans.add(new ArrayList<>());
            judged.add(new ArrayList<>());
        }
        for (int i = 0; i < 7; i++) {
            budgets[i] = 1000;
            shares[i] = 10;
        }
        for (int[][] part : policies) {
            for (int[] caller : part) {
                java.util.Arrays.fill(caller, NONE);
            }
        }
    }

    // ---- what is set

    int work(int service, int ticks) {
        int was = works[service];
        works[service] = ticks;
        return was;
    }

    int step(int service, int called, boolean isSafe, int undo) {
        plans.get(service).add(new Planned(called, isSafe, undo));
        return plans.get(service).size();
    }

    int instance(int service, int zone, int weight, int slots, int queue, int version) {
        Machine made = new Machine();
        made.number = machines.size();
        made.service = service;
        made.zone = zone;
        made.weight = weight;
        made.slots = slots;
        made.room = queue;
        made.version = version;
        made.callsAsTold = jobs.size();
        machines.add(made);
        return made.number;
    }

    int fault(int instance, int what, int value) {
        int was = machines.get(instance).faults[what];
        machines.get(instance).faults[what] = value;
        return was;
    }

    int policy(int caller, int service, int part, int value) {
        int was = policies[part][caller + 1][service + 1];
        policies[part][caller + 1][service + 1] = value;
        return was;
    }

    int share(int caller, int share) {
        int was = shares[caller];
        shares[caller] = share;
        return was;
    }

    int eyes(int eyes) {
        int was = eyesThatShun;
        eyesThatShun = eyes;
        return was;
    }

    int canary(int service, int share) {
        int was = canaries[service];
        canaries[service] = share;
        canaryTries[service] = 0;
        judged.get(service).clear();
        return was;
    }

    void traces(int newRate, int newLimit) {
        rate = newRate;
        limit = newLimit;
    }

    // ---- requests, ticks

    int request(int service, boolean isSafe, int ticks) {
        Wish wish = new Wish();
        wish.madeAt = now;
        wish.deadline = now + ticks;
        wish.task.caller = CLIENT;
        wish.task.planned = new Planned(service, isSafe, NONE);
        wish.task.request = wishes.size();
        wishes.add(wish);
        begin(wish.task);
        finish(wish);
        return wish.task.request;
    }

    int pass(int ticks) {
        for (int i = 0; i < ticks; i++) {
            tickOnce();
        }
        return now;
    }

    private void tickOnce() {
        now++;
        for (Machine machine : machines) {
            for (int caller = 0; caller < 7; caller++) {
                if (machine.breaker[caller] == OPEN && now == machine.openedAt[caller] + 10) {
                    machine.breaker[caller] = HALF;
                }
            }
        }
        for (Job job : new ArrayList<>(jobs)) {
            if (!job.hasEnded() && now >= job.deadline) {
                endJob(job, LATE);
            }
        }
        for (Job job : new ArrayList<>(jobs)) {
            if (job.state == RUNNING && job.beganAt < now && now >= job.doneAt) {
                workIsDone(job);
            }
        }
        List<Job> calling = new ArrayList<>(jobs);
        calling.removeIf(job -> job.state != CALLING);
        for (int i = calling.size() - 1; i >= 0; i--) {
            if (calling.get(i).state == CALLING) {
                walk(calling.get(i));
            }
        }
        for (Wish wish : wishes) {
            if (wish.state == GOING && now >= wish.deadline) {
                endWish(wish, LATE);
            } else if (wish.state == GOING) {
                carryOn(wish.task);
                finish(wish);
            }
        }
        for (int i = 0; i < repairs.size(); i++) {
            if (repairs.get(i).state == GOING) {
                repairOnce(repairs.get(i));
            }
        }
        for (Machine machine : machines) {
            Job first = firstQueued(machine);
            while (first != null && slotsTaken(machine) < machine.slots) {
                beginToRun(first);
                first = firstQueued(machine);
            }
        }
        if (now % 5 == 0) {
            for (Machine machine : machines) {
                machine.told = loadOf(machine);
                machine.callsAsTold = jobs.size();
            }
        }
    }

    private void workIsDone(Job job) {
        if (job.at.faults[1] == 1) {
            endJob(job, FAILED);
        } else if (plans.get(job.at.service).isEmpty()) {
            endJob(job, OK);
        } else {
            job.state = CALLING;
        }
    }

    /** The steps of a call that is CALLING. */
    private void walk(Job job) {
        List<Planned> plan = plans.get(job.at.service);
        if (job.tasks.isEmpty()) {
            beginNext(job, plan.get(0));
        } else {
            carryOn(job.tasks.get(job.tasks.size() - 1));
        }
        while (job.tasks.get(job.tasks.size() - 1).state == OK && job.tasks.size() < plan.size()) {
            beginNext(job, plan.get(job.tasks.size()));
        }
        int state = job.tasks.get(job.tasks.size() - 1).state;
        if (state != GOING) {
            endJob(job, state);
        }
    }

    private void beginNext(Job job, Planned planned) {
        Task task = new Task();
        task.caller = job.at.service;
        task.planned = planned;
        task.job = job;
        task.request = job.of.request;
        job.tasks.add(task);
        begin(task);
    }

    private void finish(Wish wish) {
        if (wish.task.state != GOING) {
            endWish(wish, wish.task.state);
        }
    }

    private void endWish(Wish wish, int state) {
        wish.state = state;
        wish.endedAt = now;
        wish.isKept = wish.task.request % rate == 0 || state != OK || now - wish.madeAt > limit;
        for (Job job : wish.task.jobs) {
            if (!job.hasEnded()) {
                endJob(job, OFF);
            }
        }
    }

    private void repairOnce(Task task) {
        look(task);
        if (task.state == GOING && !isAnyOut(task)) {
            attempt(task);
            look(task);
        }
    }

    // ---- steps

    private void begin(Task task) {
        task.beganAt = now;
        firsts[task.caller]++;
        budgets[task.caller] = Math.min(1000, budgets[task.caller] + shares[task.caller]);
        attempt(task);
        carryOn(task);
    }

    private void carryOn(Task task) {
        look(task);
        while (task.state == GOING && !isAnyOut(task)) {
            boolean isAllowed = task.planned.isSafe() || task.lastEnd == REFUSED;
            if (task.retries < told(1, task) && isAllowed && budgets[task.caller] >= 100) {
                task.retries++;
                payed(task);
            } else {
                task.state = FAILED;
            }
        }
        int hedge = told(2, task);
        boolean isDue = hedge != 0 && now >= task.beganAt + hedge;
        if (task.state == GOING && task.planned.isSafe() && isDue && task.tries == 1 && budgets[task.caller] >= 100) {
            payed(task);
        }
    }

    private void payed(Task task) {
        extras[task.caller]++;
        budgets[task.caller] -= 100;
        attempt(task);
        look(task);
    }

    private void look(Task task) {
        for (Job job : task.jobs) {
            if (task.state != GOING || job.isLookedAt || knownAs(job) == NONE) {
                continue;
            }
            job.isLookedAt = true;
            task.lastEnd = knownAs(job);
            countAtBreaker(job.at, task.caller, task.lastEnd == OK);
            countAtJudge(job.at, task.lastEnd == OK);
            if (task.lastEnd == OK) {
                task.state = OK;
            }
        }
        if (task.state == OK) {
            for (Job job : task.jobs) {
                if (!job.hasEnded()) {
                    endJob(job, OFF);
                }
            }
        }
    }

    /** As what the end of a call is known by now; NONE if it is not known. */
    private int knownAs(Job job) {
        if (!job.hasEnded() || job.state == OFF) {
            return NONE;
        }
        if (job.isLost && job.state != LATE) {
            return now >= job.deadline ? LATE : NONE;
        }
        return job.state;
    }

    private boolean isAnyOut(Task task) {
        for (Job job : task.jobs) {
            if (knownAs(job) == NONE) {
                return true;
            }
        }
        return false;
    }

    private void countAtBreaker(Machine at, int caller, boolean isOk) {
        if (at.breaker[caller] == OPEN) {
            return;
        }
        at.inRow[caller] = isOk ? 0 : at.inRow[caller] + 1;
        if (isOk) {
            at.breaker[caller] = CLOSED;
        } else if (at.breaker[caller] == HALF || at.inRow[caller] == 3) {
            at.breaker[caller] = OPEN;
            at.openedAt[caller] = now;
        }
    }

    private void countAtJudge(Machine at, boolean isOk) {
        if (canaries[at.service] == 0) {
            return;
        }
        List<Integer> ends = judged.get(at.service);
        ends.add(2 * at.version + (isOk ? 1 : 0));
        int oks0 = java.util.Collections.frequency(ends, 1);
        int bads0 = java.util.Collections.frequency(ends, 0);
        int oks1 = java.util.Collections.frequency(ends, 3);
        int bads1 = java.util.Collections.frequency(ends, 2);
        if (oks1 + bads1 >= 5 && bads1 >= 2 && bads1 * (oks0 + bads0) > 2 * bads0 * (oks1 + bads1)) {
            canaries[at.service] = 0;
        }
    }

    private int told(int part, Task task) {
        int[] first = {20, 1, 0};
        int[][] kinds = {{task.caller + 1, task.planned.called() + 1}, {0, task.planned.called() + 1}, {0, 0}};
        for (int[] kind : kinds) {
            if (policies[part][kind[0]][kind[1]] != NONE) {
                return policies[part][kind[0]][kind[1]];
            }
        }
        return first[part];
    }

    // ---- tries

    private void attempt(Task task) {
        task.tries++;
        int wanted = wantedVersion(task.planned.called());
        Machine at = chosen(task, wanted);
        if (at == null || jobs.size() == 400) {
            task.lastEnd = REFUSED;
            return;
        }
        Job job = new Job();
        job.number = jobs.size();
        job.of = task;
        job.at = at;
        job.deadline = now + told(0, task);
        if (task.job != null) {
            job.deadline = Math.min(job.deadline, task.job.deadline);
        } else if (task.request != NONE) {
            job.deadline = Math.min(job.deadline, wishes.get(task.request).deadline);
        }
        boolean isSlotFree = slotsTaken(at) < at.slots;
        boolean isAnyQueued = firstQueued(at) != null;
        boolean isRoom = loadOf(at) - slotsTaken(at) < at.room;
        job.state = REFUSED;
        jobs.add(job);
        task.jobs.add(job);
        if (at.faults[3] == 1) {
            endJob(job, REFUSED);
        } else if (isSlotFree && !isAnyQueued) {
            beginToRun(job);
        } else if (isRoom) {
            job.state = QUEUED;
        } else {
            endJob(job, REFUSED);
        }
    }

    private int wantedVersion(int service) {
        int share = canaries[service];
        if (share == 0) {
            return NONE;
        }
        int k = ++canaryTries[service];
        return k * share / 100 - (k - 1) * share / 100;
    }

    private Machine chosen(Task task, int wanted) {
        List<Machine> left = new ArrayList<>();
        for (Machine machine : machines) {
            if (machine.service == task.planned.called() && canBeChosen(machine, task.caller)) {
                left.add(machine);
            }
        }
        List<Machine> fresh = new ArrayList<>(left);
        for (Job job : task.jobs) {
            fresh.remove(job.at);
        }
        left = fresh.isEmpty() ? left : fresh;
        List<Machine> right = new ArrayList<>(left);
        right.removeIf(machine -> machine.version != wanted);
        left = right.isEmpty() ? left : right;
        Machine best = null;
        for (Machine machine : left) {
            if (best == null || burden(machine, task) < burden(best, task)) {
                best = machine;
            }
        }
        return best;
    }

    private boolean canBeChosen(Machine machine, int caller) {
        if (shunned(machine) || machine.breaker[caller] == OPEN) {
            return false;
        }
        if (machine.breaker[caller] == CLOSED) {
            return true;
        }
        for (Job job : jobs) {
            boolean isHis = job.at == machine && job.of.caller == caller;
            if (isHis && job.state != OFF && knownAs(job) == NONE && !isOver(job.of)) {
                return false;
            }
        }
        return true;
    }

    /** A step is over also with what it belongs to. */
    private boolean isOver(Task task) {
        if (task.state != GOING || task.job != null && task.job.hasEnded()) {
            return true;
        }
        return task.job == null && task.repair == NONE && wishes.get(task.request).state != GOING;
    }

    private int burden(Machine machine, Task task) {
        int tries = 0;
        for (Job job : jobs) {
            if (job.number >= machine.callsAsTold && job.at == machine && job.of.caller == task.caller) {
                tries++;
            }
        }
        int zone = task.job == null ? 0 : task.job.at.zone;
        return 100 * (machine.told + tries) / machine.weight + (machine.zone == zone ? 0 : 150);
    }

    private boolean shunned(Machine machine) {
        int open = 0;
        for (int state : machine.breaker) {
            open += state == OPEN ? 1 : 0;
        }
        return open >= eyesThatShun;
    }

    // ---- calls

    private int slotsTaken(Machine machine) {
        int count = 0;
        for (Job job : jobs) {
            count += job.at == machine && (job.state == RUNNING || job.state == CALLING) ? 1 : 0;
        }
        return count;
    }

    private int loadOf(Machine machine) {
        int count = 0;
        for (Job job : jobs) {
            count += job.at == machine && !job.hasEnded() ? 1 : 0;
        }
        return count;
    }

    private Job firstQueued(Machine machine) {
        for (Job job : jobs) {
            if (job.at == machine && job.state == QUEUED) {
                return job;
            }
        }
        return null;
    }

    private void beginToRun(Job job) {
        job.state = RUNNING;
        job.beganAt = now;
        job.doneAt = now + Math.max(1, works[job.at.service] + job.at.faults[0]);
    }

    private void endJob(Job job, int state) {
        job.state = state;
        job.endedAt = now;
        job.isLost = job.at.faults[2] == 1;
        for (Job other : new ArrayList<>(jobs)) {
            if (other.of.job == job && !other.hasEnded()) {
                endJob(other, OFF);
            }
        }
        if (state == OK) {
            return;
        }
        for (int i = job.tasks.size() - 1; i >= 0; i--) {
            Task task = job.tasks.get(i);
            boolean hasRun = false;
            for (Job tried : task.jobs) {
                hasRun |= tried.beganAt != NONE;
            }
            if (hasRun && task.planned.undo() != NONE && repairs.size() < 100) {
                Task repair = new Task();
                repair.caller = job.at.service;
                repair.planned = new Planned(task.planned.undo(), false, NONE);
                repair.repair = repairs.size();
                repairs.add(repair);
            }
        }
    }

    // ---- what is asked

    int tick() {
        return now;
    }

    int requests() {
        return wishes.size();
    }

    int instances() {
        return machines.size();
    }

    int planned(int service) {
        return plans.get(service).size();
    }

    int requestState(int request) {
        return wishes.get(request).state;
    }

    int requestTicks(int request) {
        Wish wish = wishes.get(request);
        return wish.state == GOING ? now - wish.madeAt : wish.endedAt - wish.madeAt;
    }

    boolean isKept(int request) {
        Wish wish = wishes.get(request);
        return wish.state == GOING ? request % rate == 0 : wish.isKept;
    }

    int callsOf(int request) {
        int count = 0;
        for (Job job : jobs) {
            count += job.of.request == request ? 1 : 0;
        }
        return count;
    }

    int calls() {
        return jobs.size();
    }

    int call(int call, int part) {
        Job job = jobs.get(call);
        int[] parts = {job.at.service, job.at.number, job.state, job.deadline,
            job.of.job == null ? NONE : job.of.job.number, job.of.request, job.tasks.size(), job.of.repair};
        return parts[part];
    }

    int budget(int caller) {
        return budgets[caller];
    }

    int breaker(int caller, int instance) {
        return machines.get(instance).breaker[caller];
    }

    boolean isShunned(int instance) {
        return shunned(machines.get(instance));
    }

    int load(int instance, boolean isNow) {
        return isNow ? loadOf(machines.get(instance)) : machines.get(instance).told;
    }

    int canaryShare(int service) {
        return canaries[service];
    }

    int repairs(boolean made) {
        int count = 0;
        for (Task repair : repairs) {
            count += !made || repair.state == OK ? 1 : 0;
        }
        return count;
    }

    int extra(int caller) {
        return extras[caller];
    }

    int first(int caller) {
        return firsts[caller];
    }
}
