import java.util.ArrayList;

/** Services that call services, tick by tick. The document of the project says what each method promises. */
public final class BrambleMesh {
    public static final int NONE = -1;
    public static final int CLIENT = 6;
    public static final int SLOW = 0, WRONG = 1, LOST = 2, DOWN = 3;
    public static final int TIMEOUT = 0, RETRIES = 1, HEDGE = 2;
    public static final int QUEUED = 0, RUNNING = 1, CALLING = 2, OK = 3, FAILED = 4, LATE = 5, REFUSED = 6, OFF = 7, GOING = 8;
    public static final int CLOSED = 0, OPEN = 1, HALF = 2;

    private static final int SERVICES = 6;
    private static final int CALLERS = 7;
    private static final int FAULTS = 4;
    private static final int VERSIONS = 2;
    private static final int MAX_STEPS = 4;
    private static final int MAX_INSTANCES = 12;
    private static final int MAX_REQUESTS = 40;
    private static final int MAX_CALLS = 400;
    private static final int MAX_REPAIRS = 100;
    private static final int MAX_TICK = 600;
    private static final int MAX_BUDGET = 1000;
    private static final int EXTRA_PRICE = 100;
    private static final int OPEN_TICKS = 10;
    private static final int ROW_THAT_OPENS = 3;
    private static final int TICKS_BETWEEN_LOADS = 5;
    private static final int OTHER_ZONE_BURDEN = 150;
    /** A tick behind all others. */
    private static final int NEVER = 1000000;
    /** More than any burden, so that a preference outweighs all burdens. */
    private static final int PREFERENCE = 1000000;

    private static final int POLICY_PARTS = 3;
    private static final int POLICY_PLACES = 1 + SERVICES + CALLERS * SERVICES;
    private static final int[] POLICY_AT_FIRST = {20, 1, 0};
    private static final int[] POLICY_LEAST = {1, 0, 0};
    private static final int[] POLICY_MOST = {100, 3, 50};

    private int now;
    private int eyesThatShun = 3;
    private int traceRate = 4;
    private int traceLimit = 30;
    private final int[][] policies = new int[POLICY_PARTS][POLICY_PLACES];
    private final Service[] allServices = new Service[SERVICES];
    private final Caller[] allCallers = new Caller[CALLERS];
    private final ArrayList<Instance> allInstances = new ArrayList<Instance>();
    private final ArrayList<Request> allRequests = new ArrayList<Request>();
    private final ArrayList<Call> allCalls = new ArrayList<Call>();
    private final ArrayList<Step> allRepairs = new ArrayList<Step>();

    public BrambleMesh() {
        for (int i = 0; i < SERVICES; i++) {
            allServices[i] = new Service();
        }
        for (int i = 0; i < CALLERS; i++) {
            allCallers[i] = new Caller();
        }
        for (int part = 0; part < POLICY_PARTS; part++) {
            for (int place = 0; place < POLICY_PLACES; place++) {
                policies[part][place] = NONE;
            }
        }
    }

    // ---- services, instances, policies

    public int work(int service, int ticks) throws IndexOutOfBoundsException, IllegalArgumentException {
        mustExist(isWithin(service, 0, SERVICES - 1));
        mustFit(isWithin(ticks, 0, 50));
        Service changed = allServices[service];
        int before = changed.workTicks;
        changed.workTicks = ticks;
        return before;
    }

    public int step(int service, int called, boolean isSafe, int undo)
            throws IndexOutOfBoundsException, IllegalArgumentException, IllegalStateException {
        mustExist(isWithin(service, 0, SERVICES - 1) && isWithin(called, 0, SERVICES - 1)
                && isWithin(undo, NONE, SERVICES - 1));
        mustFit(called > service && (undo == NONE || undo > service));
        Service changed = allServices[service];
        mustBeAllowed(changed.planned < MAX_STEPS && allRequests.isEmpty());
        changed.plan(called, isSafe, undo);
        return changed.planned;
    }

    public int instance(int service, int zone, int weight, int slots, int queue, int version)
            throws IndexOutOfBoundsException, IllegalArgumentException, IllegalStateException {
        mustExist(isWithin(service, 0, SERVICES - 1));
        mustFit(isWithin(zone, 0, 2) && isWithin(weight, 1, 9) && isWithin(slots, 1, 9));
        mustFit(isWithin(queue, 0, 9) && isWithin(version, 0, VERSIONS - 1));
        mustBeAllowed(allInstances.size() < MAX_INSTANCES);
        Instance made = new Instance(allInstances.size(), service, zone, weight, slots, queue, version);
        allInstances.add(made);
        return made.number;
    }

    public int fault(int instance, int what, int value) throws IndexOutOfBoundsException, IllegalArgumentException {
        mustExist(isWithin(instance, 0, allInstances.size() - 1));
        mustFit(isWithin(what, 0, FAULTS - 1));
        mustFit(isWithin(value, 0, what == SLOW ? 50 : 1));
        int[] faults = allInstances.get(instance).faults;
        int before = faults[what];
        faults[what] = value;
        return before;
    }

    public int policy(int caller, int service, int part, int value)
            throws IndexOutOfBoundsException, IllegalArgumentException {
        mustExist(isWithin(caller, NONE, CALLERS - 1) && isWithin(service, NONE, SERVICES - 1));
        mustFit(caller == NONE || service != NONE);
        mustFit(isWithin(part, 0, POLICY_PARTS - 1));
        mustFit(isWithin(value, POLICY_LEAST[part], POLICY_MOST[part]));
        int place = policyPlace(caller, service);
        int before = policies[part][place];
        policies[part][place] = value;
        return before;
    }

    public int share(int caller, int share) throws IndexOutOfBoundsException, IllegalArgumentException {
        mustExist(isWithin(caller, 0, CALLERS - 1));
        mustFit(isWithin(share, 0, 100));
        Caller changed = allCallers[caller];
        int before = changed.shareOfFirst;
        changed.shareOfFirst = share;
        return before;
    }

    public int eyes(int eyes) throws IllegalArgumentException {
        mustFit(isWithin(eyes, 1, CALLERS));
        int before = eyesThatShun;
        eyesThatShun = eyes;
        return before;
    }

    public int canary(int service, int share) throws IndexOutOfBoundsException, IllegalArgumentException {
        mustExist(isWithin(service, 0, SERVICES - 1));
        mustFit(isWithin(share, 0, 100));
        Canary changed = allServices[service].canaries;
        int before = changed.percent;
        changed.restart(share);
        return before;
    }

    public void traces(int rate, int limit) throws IllegalArgumentException {
        mustFit(isWithin(rate, 1, 10) && isWithin(limit, 1, MAX_TICK));
        traceRate = rate;
        traceLimit = limit;
    }

    // ---- requests, ticks

    public int request(int service, boolean isSafe, int ticks)
            throws IndexOutOfBoundsException, IllegalArgumentException, IllegalStateException {
        mustExist(isWithin(service, 0, SERVICES - 1));
        mustFit(isWithin(ticks, 1, 200));
        mustBeAllowed(allRequests.size() < MAX_REQUESTS);
        Step step = new Step(CLIENT, service, isSafe);
        step.request = allRequests.size();
        step.deadline = now + ticks;
        Request made = new Request(step, now);
        allRequests.add(made);
        tryOnce(step, false);
        goOn(step);
        endIfOver(made);
        return step.request;
    }

    public int pass(int ticks) throws IllegalArgumentException, IllegalStateException {
        mustFit(isWithin(ticks, 1, 50));
        mustBeAllowed(now + ticks <= MAX_TICK);
        for (int i = 0; i < ticks; i++) {
            now++;
            halfOpenBreakers();
            endLateCalls();
            endWork();
            goOnWithCalls();
            goOnWithRequests();
            goOnWithRepairs();
            runQueued();
            if (now % TICKS_BETWEEN_LOADS == 0) {
                tellLoads();
            }
        }
        return now;
    }

    // ---- what is asked

    public int tick() {
        return now;
    }

    public int requestState(int request) throws IndexOutOfBoundsException {
        mustExist(isWithin(request, 0, allRequests.size() - 1));
        return allRequests.get(request).state;
    }

    public int requestTicks(int request) throws IndexOutOfBoundsException {
        mustExist(isWithin(request, 0, allRequests.size() - 1));
        Request asked = allRequests.get(request);
        return (asked.state == GOING ? now : asked.endedAt) - asked.madeAt;
    }

    public boolean isKept(int request) throws IndexOutOfBoundsException {
        mustExist(isWithin(request, 0, allRequests.size() - 1));
        Request asked = allRequests.get(request);
        return asked.state == GOING ? isKeptByHead(asked) : asked.isKeptAtEnd;
    }

    public int callsOf(int request) throws IndexOutOfBoundsException {
        mustExist(isWithin(request, 0, allRequests.size() - 1));
        int count = 0;
        for (int i = 0; i < allCalls.size(); i++) {
            if (allCalls.get(i).of.request == request) {
                count++;
            }
        }
        return count;
    }

    public int calls() {
        return allCalls.size();
    }

    public int call(int call, int part) throws IndexOutOfBoundsException, IllegalArgumentException {
        mustExist(isWithin(call, 0, allCalls.size() - 1));
        mustFit(isWithin(part, 0, 7));
        Call asked = allCalls.get(call);
        switch (part) {
            case 0: return asked.of.called;
            case 1: return asked.at.number;
            case 2: return asked.state;
            case 3: return asked.deadline;
            case 4: return asked.of.call == null ? NONE : asked.of.call.number;
            case 5: return asked.of.request;
            case 6: return asked.steps.size();
            default: return asked.of.repair;
        }
    }

    public int budget(int caller) throws IndexOutOfBoundsException {
        mustExist(isWithin(caller, 0, CALLERS - 1));
        return allCallers[caller].money;
    }

    public int breaker(int caller, int instance) throws IndexOutOfBoundsException {
        mustExist(isWithin(caller, 0, CALLERS - 1) && isWithin(instance, 0, allInstances.size() - 1));
        return allInstances.get(instance).breakers[caller].state;
    }

    public boolean isShunned(int instance) throws IndexOutOfBoundsException {
        mustExist(isWithin(instance, 0, allInstances.size() - 1));
        return allInstances.get(instance).openBreakers() >= eyesThatShun;
    }

    public int load(int instance, boolean isNow) throws IndexOutOfBoundsException {
        mustExist(isWithin(instance, 0, allInstances.size() - 1));
        Instance asked = allInstances.get(instance);
        return isNow ? asked.loadNow() : asked.toldLoad;
    }

    public int canaryShare(int service) throws IndexOutOfBoundsException {
        mustExist(isWithin(service, 0, SERVICES - 1));
        return allServices[service].canaries.percent;
    }

    public int repairs(boolean made) {
        if (!made) {
            return allRepairs.size();
        }
        int count = 0;
        for (int i = 0; i < allRepairs.size(); i++) {
            if (allRepairs.get(i).state == OK) {
                count++;
            }
        }
        return count;
    }

    public int extra(int caller) throws IndexOutOfBoundsException {
        mustExist(isWithin(caller, 0, CALLERS - 1));
        return allCallers[caller].extraTries;
    }

    public int first(int caller) throws IndexOutOfBoundsException {
        mustExist(isWithin(caller, 0, CALLERS - 1));
        return allCallers[caller].firstTries;
    }

    // ---- what arguments must be

    private static boolean isWithin(int value, int least, int most) {
        return value >= least && value <= most;
    }

    private static void mustExist(boolean isThere) {
        if (!isThere) {
            throw new IndexOutOfBoundsException("there is no such number");
        }
    }

    private static void mustFit(boolean isInRange) {
        if (!isInRange) {
            throw new IllegalArgumentException("an argument is out of range");
        }
    }

    private static void mustBeAllowed(boolean isAllowed) {
        if (!isAllowed) {
            throw new IllegalStateException("this is not possible any more");
        }
    }

    // ---- policies

    private static int policyPlace(int caller, int service) {
        if (service == NONE) {
            return 0;
        }
        return caller == NONE ? 1 + service : 1 + SERVICES + caller * SERVICES + service;
    }

    /** The closest kind that was told counts, whenever it was told. */
    private int policyOf(Step step, int part) {
        int[] told = policies[part];
        int forBoth = told[policyPlace(step.caller, step.called)];
        if (forBoth != NONE) {
            return forBoth;
        }
        int forService = told[policyPlace(NONE, step.called)];
        if (forService != NONE) {
            return forService;
        }
        int forAll = told[policyPlace(NONE, NONE)];
        return forAll != NONE ? forAll : POLICY_AT_FIRST[part];
    }

    // ---- a tick

    private void halfOpenBreakers() {
        for (int i = 0; i < allInstances.size(); i++) {
            Breaker[] breakers = allInstances.get(i).breakers;
            for (int caller = 0; caller < breakers.length; caller++) {
                breakers[caller].rest(now);
            }
        }
    }

    private void endLateCalls() {
        for (int i = 0; i < allCalls.size(); i++) {
            Call call = allCalls.get(i);
            if (!call.hasEnded() && call.deadline <= now) {
                end(call, LATE, 0);
            }
        }
    }

    private void endWork() {
        for (int i = 0; i < allCalls.size(); i++) {
            Call call = allCalls.get(i);
            if (call.state != RUNNING || call.doneAt > now) {
                continue;
            }
            if (call.at.faults[WRONG] != 0) {
                end(call, FAILED, 0);
            } else if (allServices[call.of.called].planned == 0) {
                end(call, OK, 0);
            } else {
                call.state = CALLING;
            }
        }
    }

    /** By falling numbers, so that a call learns in the same tick how the calls of its step have ended. */
    private void goOnWithCalls() {
        for (int i = allCalls.size() - 1; i >= 0; i--) {
            Call call = allCalls.get(i);
            if (call.state != CALLING) {
                continue;
            }
            Step step = call.lastStep();
            if (step != null) {
                goOn(step);
            }
            int planned = allServices[call.of.called].planned;
            for (int begun = call.steps.size(); begun < planned && isDone(step); begun++) {
                step = beginStep(call, begun);
                goOn(step);
            }
            if (isDone(step)) {
                end(call, OK, 0);
            } else if (step != null && step.state == FAILED) {
                end(call, FAILED, 0);
            }
        }
    }

    /** Ahead of the first step there is none that is still to be done. */
    private static boolean isDone(Step step) {
        return step == null || step.state == OK;
    }

    private Step beginStep(Call call, int place) {
        Step step = stepOf(call, allServices[call.of.called], place);
        call.steps.add(step);
        tryOnce(step, false);
        return step;
    }

    private static Step stepOf(Call call, Service service, int place) {
        Step step = new Step(call.of.called, service.called[place], service.isSafe[place]);
        step.undo = service.undo[place];
        step.call = call;
        step.zone = call.at.zone;
        step.request = call.of.request;
        step.deadline = call.deadline;
        return step;
    }

    private void goOnWithRequests() {
        for (int i = 0; i < allRequests.size(); i++) {
            Request request = allRequests.get(i);
            if (request.state != GOING) {
                continue;
            }
            if (request.step.deadline <= now) {
                endRequest(request, LATE);
            } else {
                goOn(request.step);
                endIfOver(request);
            }
        }
    }

    private void goOnWithRepairs() {
        for (int i = 0; i < allRepairs.size(); i++) {
            Step repair = allRepairs.get(i);
            lookAtEnds(repair);
            if (repair.state == GOING && !repair.hasTryOut(now)) {
                tryOnce(repair, false);
                lookAtEnds(repair);
            }
        }
    }

    private void runQueued() {
        for (int i = 0; i < allInstances.size(); i++) {
            Instance at = allInstances.get(i);
            for (int free = at.slots - at.busy; free > 0 && !at.queue.isEmpty(); free--) {
                Call call = at.queue.get(0);
                at.queue.remove(0);
                run(call);
            }
        }
    }

    private void tellLoads() {
        for (int i = 0; i < allInstances.size(); i++) {
            allInstances.get(i).tellLoad();
        }
    }

    // ---- requests

    private void endIfOver(Request request) {
        if (request.step.state != GOING) {
            endRequest(request, request.step.state);
        }
    }

    private void endRequest(Request request, int state) {
        request.state = state;
        request.endedAt = now;
        boolean isSlow = now - request.madeAt > traceLimit;
        request.isKeptAtEnd = isKeptByHead(request) || state != OK || isSlow;
        close(request.step, 0);
    }

    private boolean isKeptByHead(Request request) {
        return traceRate > 0 && request.step.request % traceRate == 0;
    }

    // ---- steps

    private void goOn(Step step) {
        lookAtEnds(step);
        int mostRetries = policyOf(step, RETRIES);
        for (int i = 0; i <= mostRetries && step.state == GOING && !step.hasTryOut(now); i++) {
            boolean mayRepeat = step.lastEnd == REFUSED || step.isSafe;
            if (step.retries < mostRetries && mayRepeat && canPay(step)) {
                step.retries++;
                tryOnce(step, true);
                lookAtEnds(step);
            } else {
                step.state = FAILED;
            }
        }
        if (isHedgeDue(step)) {
            tryOnce(step, true);
            lookAtEnds(step);
        }
    }

    private void lookAtEnds(Step step) {
        for (int i = 0; i < step.tries.size() && step.state == GOING; i++) {
            Call call = step.tries.get(i);
            if (call.isLookedAt || !call.isKnown(now)) {
                continue;
            }
            call.isLookedAt = true;
            step.lastEnd = call.knownAs;
            boolean isOk = call.knownAs == OK;
            call.at.breakers[step.caller].count(isOk, now);
            allServices[step.called].canaries.judge(call.at.version, isOk);
            if (isOk) {
                step.state = OK;
                close(step, 0);
            }
        }
    }

    private boolean canPay(Step step) {
        return allCallers[step.caller].money >= EXTRA_PRICE;
    }

    private boolean isHedgeDue(Step step) {
        int hedge = policyOf(step, HEDGE);
        return step.state == GOING && step.isSafe && hedge > 0 && step.tryCount == 1
                && now - step.firstTick >= hedge && canPay(step);
    }

    private void tryOnce(Step step, boolean isExtra) {
        if (step.repair == NONE) {
            allCallers[step.caller].account(isExtra);
        }
        if (step.tryCount == 0) {
            step.firstTick = now;
        }
        step.tryCount++;
        Instance at = choose(step);
        if (at == null || allCalls.size() >= MAX_CALLS) {
            step.lastEnd = REFUSED;
            return;
        }
        int deadline = Math.min(step.deadline, now + policyOf(step, TIMEOUT));
        Call call = new Call(allCalls.size(), step, at, deadline);
        allCalls.add(call);
        step.tries.add(call);
        at.newTries[step.caller]++;
        place(call);
    }

    // ---- choosing an instance

    private Instance choose(Step step) {
        int wanted = allServices[step.called].canaries.nextVersion();
        Instance chosen = null;
        int least = 0;
        for (int i = 0; i < allInstances.size(); i++) {
            Instance at = allInstances.get(i);
            if (at.service != step.called || !canChoose(step.caller, at)) {
                continue;
            }
            int cost = at.burdenFor(step.caller, step.zone);
            if (wanted != NONE && at.version != wanted) {
                cost += PREFERENCE;
            }
            if (step.hasTried(at)) {
                cost += 2 * PREFERENCE;
            }
            if (chosen == null || cost < least) {
                chosen = at;
                least = cost;
            }
        }
        return chosen;
    }

    private boolean canChoose(int caller, Instance at) {
        int breaker = at.breakers[caller].state;
        if (breaker == OPEN || at.openBreakers() >= eyesThatShun) {
            return false;
        }
        return breaker == CLOSED || !hasTryOutAt(caller, at);
    }

    private boolean hasTryOutAt(int caller, Instance at) {
        for (int i = 0; i < allCalls.size(); i++) {
            Call call = allCalls.get(i);
            if (call.at == at && call.of.caller == caller && call.of.state == GOING && call.knownAt > now) {
                return true;
            }
        }
        return false;
    }

    // ---- calls

    private void place(Call call) {
        Instance at = call.at;
        boolean isDown = at.faults[DOWN] != 0;
        if (!isDown && at.busy < at.slots && at.queue.isEmpty()) {
            run(call);
        } else if (!isDown && at.queue.size() < at.room) {
            call.state = QUEUED;
            at.queue.add(call);
        } else {
            call.state = REFUSED;
            call.learnEnd(now);
        }
    }

    private void run(Call call) {
        call.state = RUNNING;
        call.at.busy++;
        call.of.hasRun = true;
        int ticks = allServices[call.of.called].workTicks + call.at.faults[SLOW];
        call.doneAt = now + Math.max(1, ticks);
    }

    /** Calls go to greater services alone, so that no end goes deeper than there are services. */
    private void end(Call call, int state, int depth) {
        if (depth > SERVICES) {
            return;
        }
        call.at.release(call);
        call.state = state;
        call.learnEnd(now);
        Step last = call.lastStep();
        if (last != null) {
            close(last, depth + 1);
        }
        if (state != OK) {
            beginRepairs(call);
        }
    }

    /** Steps ahead of the last one are done, so that the tries of the last one alone can be going. */
    private void close(Step step, int depth) {
        if (step.state == GOING) {
            step.state = OFF;
        }
        for (int i = 0; i < step.tries.size(); i++) {
            Call call = step.tries.get(i);
            if (!call.hasEnded()) {
                end(call, OFF, depth);
            }
        }
    }

    private void beginRepairs(Call call) {
        for (int i = call.steps.size() - 1; i >= 0; i--) {
            Step step = call.steps.get(i);
            if (step.undo != NONE && step.hasRun && allRepairs.size() < MAX_REPAIRS) {
                Step repair = new Step(call.of.called, step.undo, false);
                repair.repair = allRepairs.size();
                allRepairs.add(repair);
            }
        }
    }

    // ---- the parts

    private static final class Service {
        int workTicks = 1;
        int planned;
        final int[] called = new int[MAX_STEPS];
        final int[] undo = new int[MAX_STEPS];
        final boolean[] isSafe = new boolean[MAX_STEPS];
        final Canary canaries = new Canary();

        void plan(int calledService, boolean isSafeStep, int undoService) {
            if (planned < MAX_STEPS) {
                called[planned] = calledService;
                isSafe[planned] = isSafeStep;
                undo[planned] = undoService;
                planned++;
            }
        }
    }

    private static final class Canary {
        int percent;
        int tries;
        final int[] ends = new int[VERSIONS];
        final int[] badEnds = new int[VERSIONS];

        void restart(int newPercent) {
            percent = newPercent;
            tries = 0;
            for (int version = 0; version < VERSIONS; version++) {
                ends[version] = 0;
                badEnds[version] = 0;
            }
        }

        int nextVersion() {
            if (percent == 0) {
                return NONE;
            }
            tries++;
            return tries * percent / 100 > (tries - 1) * percent / 100 ? 1 : 0;
        }

        void judge(int version, boolean isOk) {
            if (percent == 0) {
                return;
            }
            ends[version]++;
            if (!isOk) {
                badEnds[version]++;
            }
            boolean isWorse = badEnds[1] * ends[0] > 2 * badEnds[0] * ends[1];
            if (ends[1] >= 5 && badEnds[1] >= 2 && isWorse) {
                percent = 0;
            }
        }
    }

    private static final class Caller {
        int money = MAX_BUDGET;
        int shareOfFirst = 10;
        int firstTries;
        int extraTries;

        void account(boolean isExtra) {
            if (isExtra) {
                extraTries++;
                money -= EXTRA_PRICE;
            } else {
                firstTries++;
                money = Math.min(MAX_BUDGET, money + shareOfFirst);
            }
        }
    }

    private static final class Breaker {
        int state = CLOSED;
        int inRow;
        int openedAt;

        void count(boolean isOk, int now) {
            if (state == OPEN) {
                return;
            }
            if (isOk) {
                state = CLOSED;
                inRow = 0;
                return;
            }
            inRow++;
            if (inRow >= ROW_THAT_OPENS || state == HALF) {
                state = OPEN;
                openedAt = now;
            }
        }

        void rest(int now) {
            if (state == OPEN && now - openedAt >= OPEN_TICKS) {
                state = HALF;
            }
        }
    }

    private static final class Instance {
        final int number;
        final int service;
        final int zone;
        final int weight;
        final int slots;
        final int room;
        final int version;
        final int[] faults = new int[FAULTS];
        final Breaker[] breakers = new Breaker[CALLERS];
        /** By caller: its tries here since the load was told. */
        final int[] newTries = new int[CALLERS];
        final ArrayList<Call> queue = new ArrayList<Call>();
        /** Slots that are taken. */
        int busy;
        int toldLoad;

        Instance(int number, int service, int zone, int weight, int slots, int room, int version) {
            this.number = number;
            this.service = service;
            this.zone = zone;
            this.weight = weight;
            this.slots = slots;
            this.room = room;
            this.version = version;
            for (int i = 0; i < CALLERS; i++) {
                breakers[i] = new Breaker();
            }
        }

        int openBreakers() {
            int count = 0;
            for (int i = 0; i < CALLERS; i++) {
                if (breakers[i].state == OPEN) {
                    count++;
                }
            }
            return count;
        }

        int loadNow() {
            return busy + queue.size();
        }

        void tellLoad() {
            toldLoad = loadNow();
            for (int i = 0; i < CALLERS; i++) {
                newTries[i] = 0;
            }
        }

        int burdenFor(int caller, int callerZone) {
            int burden = 100 * (toldLoad + newTries[caller]);
            if (weight > 0) {
                burden /= weight;
            }
            return zone == callerZone ? burden : burden + OTHER_ZONE_BURDEN;
        }

        /** Frees the slot of a call, or its place in the queue. */
        void release(Call call) {
            if (call.state == RUNNING || call.state == CALLING) {
                busy--;
                return;
            }
            for (int i = 0; i < queue.size(); i++) {
                if (queue.get(i) == call) {
                    queue.remove(i);
                    return;
                }
            }
        }
    }

    /** A step that has begun: of a call, of a request, or a repair. */
    private static final class Step {
        final int caller;
        final int called;
        final boolean isSafe;
        int undo = NONE;
        int zone;
        int deadline = NEVER;
        int request = NONE;
        int repair = NONE;
        /** The call whose step it is, or null. */
        Call call;
        final ArrayList<Call> tries = new ArrayList<Call>();
        /** All tries, those without a call counted. */
        int tryCount;
        int retries;
        int firstTick;
        int lastEnd = NONE;
        boolean hasRun;
        /** GOING, OK, FAILED, or OFF, if what it belongs to has ended. */
        int state = GOING;

        Step(int caller, int called, boolean isSafe) {
            this.caller = caller;
            this.called = called;
            this.isSafe = isSafe;
        }

        boolean hasTryOut(int now) {
            for (int i = 0; i < tries.size(); i++) {
                if (!tries.get(i).isKnown(now)) {
                    return true;
                }
            }
            return false;
        }

        boolean hasTried(Instance at) {
            for (int i = 0; i < tries.size(); i++) {
                if (tries.get(i).at == at) {
                    return true;
                }
            }
            return false;
        }
    }

    private static final class Call {
        final int number;
        /** The step of which it is a try. */
        final Step of;
        final Instance at;
        final int deadline;
        /** Its own steps that have begun. */
        final ArrayList<Step> steps = new ArrayList<Step>();
        int state = NONE;
        int doneAt = NEVER;
        int knownAs = NONE;
        int knownAt = NEVER;
        boolean isLookedAt;

        Call(int number, Step of, Instance at, int deadline) {
            this.number = number;
            this.of = of;
            this.at = at;
            this.deadline = deadline;
        }

        boolean hasEnded() {
            return state >= OK;
        }

        boolean isKnown(int now) {
            return knownAt <= now;
        }

        Step lastStep() {
            return steps.isEmpty() ? null : steps.get(steps.size() - 1);
        }

        /** OFF is never known; a reply that is lost is missed at the deadline. */
        void learnEnd(int now) {
            if (state == OFF) {
                return;
            }
            boolean isLost = at.faults[LOST] != 0 && state != LATE;
            knownAs = isLost ? LATE : state;
            knownAt = isLost ? deadline : now;
        }
    }

    private static final class Request {
        final Step step;
        final int madeAt;
        int state = GOING;
        int endedAt;
        boolean isKeptAtEnd;

        Request(Step step, int madeAt) {
            this.step = step;
            this.madeAt = madeAt;
        }
    }
}
