/**
 * The asynchronous core of a small JavaScript; ../shared/DOC.md says what each call answers, and
 * the words in capitals are its Terms.
 *
 * All is kept in rows that the constructor makes, so that no later call makes an object.
 */
public final class JobLoop {
    public static final int BAD = -1, FULL = -2, PENDING = 0, FULFILLED = 1, REJECTED = 2;
    public static final long NONE = 1L << 40;

    private static final int MOST_PROMISES = 100, MOST_THENABLES = 4, MOST_FUNCTIONS = 10;
    private static final int MOST_STEPS = 10, MOST_STEPS_AT_ONCE = 200, MOST_ITEMS = 5;
    private static final int MOST_TASKS = 32, MOST_TIME = 1000, MOST_TURNS = 60, MOST_KEPT_NOTES = 60;

    /** The sorts of VALUES. */
    private static final int NUMBER = 0, PROMISE = 1, THENABLE = 2;

    /** What a STEP does. */
    private static final int NOTE = 0, SHOW = 1, SET = 2, GIVE = 3, THROW = 4, AWAIT = 5, TRY = 6, END = 7;
    private static final int CALL = 8, RESOLVE = 9, REJECT = 10, THEN = 11, LATER = 12, IF = 13, LESS = 14;
    private static final int STEP_KINDS = 15;

    /** The kinds of THENABLES. */
    private static final int RESOLVES = 0, REJECTS = 1, RESOLVES_FIRST = 2, SILENT = 3, THENABLE_KINDS = 4;

    /** The kinds of GROUPS. */
    private static final int ALL = 0, RACE = 1, SETTLED = 2, ANY = 3, GROUP_KINDS = 4;

    /** What a JOB does for its PROMISE; PLACE i of a GROUP is FIRST_PLACE + i. */
    private static final int ADOPT = 0, ADOPTION = 1, HANDLERS = 2, GOING_ON = 3, FIRST_PLACE = 4;
    private static final int JOB_KINDS = FIRST_PLACE + MOST_ITEMS;

    /** The NUMBERS with which something is REJECTED, or which a STEP THROWS. */
    private static final int ITSELF = -1, MAY_NOT_STOP = -2, NO_PROMISE = -3, TOO_MUCH = -4, NO_WINNER = -5;

    private static final int FIRST_KEY = 0, NOBODY = -1, NO_FUNCTION = -1, STEP_DELAY = 5;

    private final Promises promises;
    private final Thenables thenables;
    private final Functions functions;
    private final Tasks tasks;
    private final Notes notes;
    private final Groups groups;
    private final Runner runner;

    public JobLoop() {
        promises = new Promises();
        thenables = new Thenables();
        functions = new Functions();
        tasks = new Tasks();
        notes = new Notes();
        groups = new Groups(promises);
        runner = new Runner(functions, promises, tasks, notes);
    }

    public int promise() {
        return promises.isFull() ? FULL : promises.make();
    }

    public boolean resolve(int p, int sort, int n) {
        return settleFromOutside(p, FULFILLED, sort, n);
    }

    public boolean reject(int p, int sort, int n) {
        return settleFromOutside(p, REJECTED, sort, n);
    }

    private boolean settleFromOutside(int p, int how, int sort, int n) {
        if (!promises.has(p) || !isValue(sort, n)) {
            return false;
        }
        promises.settleBy(p, how, Value.of(sort, n), FIRST_KEY);
        return true;
    }

    public int then(int p, int f, int g) {
        if (!promises.has(p) || !isHandler(f) || !isHandler(g)) {
            return BAD;
        }
        return promises.isFull() ? FULL : runner.addHandlers(p, f, g);
    }

    public boolean thenable(int t, int kind, int uSort, int u, int wSort, int w) {
        if (!isWithin(t, MOST_THENABLES) || !isWithin(kind, THENABLE_KINDS)) {
            return false;
        }
        if (!isValue(uSort, u) || !isValue(wSort, w)) {
            return false;
        }
        thenables.change(t, kind, Value.of(uSort, u), Value.of(wSort, w));
        return true;
    }

    public int step(int f, int what, int sort, int n) {
        if (!isFunction(f) || !Functions.mayBeStep(what, sort, n)) {
            return BAD;
        }
        return functions.isFull(f) ? FULL : functions.add(f, what, Value.of(what == SET ? sort : NUMBER, n));
    }

    public int empty(int f) {
        return isFunction(f) ? functions.removeAll(f) : BAD;
    }

    public int start(int f, int sort, int n) {
        if (!isFunction(f) || !isValue(sort, n)) {
            return BAD;
        }
        if (promises.isFull()) {
            return FULL;
        }
        int r = runner.begin(f, Value.of(sort, n));
        runner.goOn();
        return r;
    }

    public int later(int f, int sort, int n, int time) {
        if (!isFunction(f) || !isValue(sort, n) || !isWithin(time, MOST_TIME + 1)) {
            return BAD;
        }
        return tasks.isFull() ? FULL : tasks.add(f, Value.of(sort, n), time);
    }

    public int item(int sort, int n) {
        if (!isValue(sort, n)) {
            return BAD;
        }
        return groups.isFull() ? FULL : groups.addItem(Value.of(sort, n));
    }

    public int group(int kind) {
        if (!isWithin(kind, GROUP_KINDS)) {
            return BAD;
        }
        return groups.hasRoom() ? groups.form(kind) : FULL;
    }

    public int run(int n) {
        if (!isWithin(n, MOST_TURNS + 1)) {
            return BAD;
        }
        int done = 0;
        while (done < n && (promises.jobs() > 0 || tasks.size() > 0)) {
            notes.beginTurn();
            if (promises.jobs() > 0) {
                doJob(promises.takeJob());
            } else {
                doTask(tasks.dueFirst());
            }
            runner.goOn();
            done++;
        }
        return done;
    }

    public int forget() {
        int made = promises.made();
        promises.clear();
        thenables.clear();
        tasks.clear();
        notes.clear();
        groups.clear();
        runner.clear();
        return made;
    }

    public int state(int p, int what) {
        if (!promises.has(p)) {
            return BAD;
        }
        boolean pending = promises.statusOf(p) == PENDING;
        switch (what) {
            case 0: return promises.statusOf(p);
            case 1: return pending ? BAD : Value.sortOf(promises.valueOf(p));
            case 2: return pending ? BAD : Value.numberOf(promises.valueOf(p));
            case 3: return promises.isLoose(p) ? 1 : 0;
            case 4: return promises.reactionsOf(p);
            case 5: return promises.lastKeyOf(p);
            case 6: return promises.isKeyUsed(p) ? 1 : 0;
            case 7: return runner.isStopped(p) ? 1 : 0;
            default: return BAD;
        }
    }

    public long noted(int k, int what) {
        if (!isWithin(k, notes.kept())) {
            return NONE;
        }
        switch (what) {
            case 0: return Value.numberOf(notes.valueOf(k));
            case 1: return Value.sortOf(notes.valueOf(k));
            case 2: return notes.turnOf(k);
            default: return NONE;
        }
    }

    public int count(int what) {
        switch (what) {
            case 0: return promises.made();
            case 1: return promises.jobs();
            case 2: return notes.turns();
            case 3: return tasks.size();
            case 4: return tasks.time();
            case 5: return notes.total();
            case 6: return promises.loose();
            case 7: return groups.items();
            default: return BAD;
        }
    }

    private void doJob(int job) {
        int p = job / JOB_KINDS;
        int kind = job % JOB_KINDS;
        int source = promises.sourceOf(job);
        int how = promises.statusOf(source);
        long value = promises.valueOf(source);
        switch (kind) {
            case ADOPT:
                adopt(p, promises.toAdopt(p), promises.addKey(p));
                break;
            case ADOPTION:
                // No further KEY can have come since: only this JOB may use the last one.
                promises.settleBy(p, how, value, promises.lastKeyOf(p));
                break;
            case HANDLERS:
                runner.handle(p, how, value);
                break;
            case GOING_ON:
                runner.resume(p, how, value);
                break;
            default:
                groups.settlePlace(p, kind - FIRST_PLACE, how, value);
                groups.settleIfComplete(p);
                break;
        }
    }

    private void adopt(int p, long value, int key) {
        int n = Value.numberOf(value);
        if (Value.sortOf(value) == PROMISE) {
            promises.waitFor(n, jobOf(p, ADOPTION));
            return;
        }
        switch (thenables.kindOf(n)) {
            case RESOLVES:
                promises.settleBy(p, FULFILLED, thenables.uOf(n), key);
                break;
            case REJECTS:
                promises.settleBy(p, REJECTED, thenables.uOf(n), key);
                break;
            case RESOLVES_FIRST:
                promises.settleBy(p, FULFILLED, thenables.uOf(n), key);
                promises.settleBy(p, REJECTED, thenables.wOf(n), key);
                break;
            default:
                break;
        }
    }

    private void doTask(int task) {
        runner.perform(tasks.functionOf(task), tasks.valueOf(task), NOBODY);
        tasks.finish(task);
    }

    private boolean isValue(int sort, int n) {
        return Value.exists(sort, n, promises.made());
    }

    private static boolean isFunction(int f) {
        return isWithin(f, MOST_FUNCTIONS);
    }

    private static boolean isHandler(int f) {
        return f == NO_FUNCTION || isFunction(f);
    }

    private static boolean isWithin(int n, int bound) {
        return n >= 0 && n < bound;
    }

    private static int jobOf(int p, int kind) {
        return p * JOB_KINDS + kind;
    }

    /** A VALUE in one long: its sort above, its number in the lower 32 bits. */
    private static final class Value {
        static long of(int sort, int n) {
            return ((long) sort << 32) | (n & 0xffffffffL);
        }

        static int sortOf(long value) {
            return (int) (value >> 32);
        }

        static int numberOf(long value) {
            return (int) value;
        }

        static boolean exists(int sort, int n, int promises) {
            switch (sort) {
                case NUMBER: return true;
                case PROMISE: return isWithin(n, promises);
                case THENABLE: return isWithin(n, MOST_THENABLES);
                default: return false;
            }
        }
    }

    /** A row of numbers or VALUES that bears every index: outside it there are zeros, and nothing is kept. */
    private static final class Row {
        private final long[] cells;

        Row(int length) {
            cells = new long[length < 0 ? 0 : length];
        }

        int at(int i) {
            return i >= 0 && i < cells.length ? (int) cells[i] : 0;
        }

        long valueAt(int i) {
            return i >= 0 && i < cells.length ? cells[i] : 0L;
        }

        void put(int i, long value) {
            if (i >= 0 && i < cells.length) {
                cells[i] = value;
            }
        }

        void fill(long value) {
            for (int i = 0; i < cells.length; i++) {
                cells[i] = value;
            }
        }
    }

    /**
     * The PROMISES, and the line of JOBS into which their REACTIONS go.
     *
     * A JOB or REACTION is a number, jobOf(p, kind), where p is the PROMISE for which something is
     * done. Each of them is in one chain at most: p adopts one VALUE at a time (its last KEY stays
     * used until the JOB to ADOPT gives it a further one), it is made with one pair of HANDLERS,
     * for one FUNCTION or one GROUP. So every JOB has its own cells, and none is ever refused.
     */
    private static final class Promises {
        private final Row status = new Row(MOST_PROMISES);
        private final Row value = new Row(MOST_PROMISES);
        private final Row lastKey = new Row(MOST_PROMISES);
        private final Row keyUsed = new Row(MOST_PROMISES);
        private final Row waitedFor = new Row(MOST_PROMISES);
        private final Row adopted = new Row(MOST_PROMISES);
        private final Row reactions = new Row(MOST_PROMISES);
        private final Row firstReaction = new Row(MOST_PROMISES);
        private final Row lastReaction = new Row(MOST_PROMISES);
        private final Row next = new Row(MOST_PROMISES * JOB_KINDS);
        private final Row source = new Row(MOST_PROMISES * JOB_KINDS);
        private int made = 0;
        private int jobs = 0;
        private int firstJob = 0;
        private int lastJob = 0;

        void clear() {
            made = 0;
            jobs = 0;
        }

        int made() {
            return made;
        }

        boolean isFull() {
            return made >= MOST_PROMISES;
        }

        boolean has(int p) {
            return isWithin(p, made);
        }

        int statusOf(int p) {
            return status.at(p);
        }

        long valueOf(int p) {
            return value.valueAt(p);
        }

        int lastKeyOf(int p) {
            return lastKey.at(p);
        }

        boolean isKeyUsed(int p) {
            return keyUsed.at(p) == 1;
        }

        int reactionsOf(int p) {
            return reactions.at(p);
        }

        boolean isLoose(int p) {
            return status.at(p) == REJECTED && waitedFor.at(p) == 0;
        }

        int loose() {
            int many = 0;
            for (int p = 0; p < made; p++) {
                if (isLoose(p)) {
                    many++;
                }
            }
            return many;
        }

        /** A new PROMISE; only where isFull() says that there is room. */
        int make() {
            int p = made;
            status.put(p, PENDING);
            value.put(p, 0);
            lastKey.put(p, FIRST_KEY);
            keyUsed.put(p, 0);
            waitedFor.put(p, 0);
            reactions.put(p, 0);
            made++;
            return p;
        }

        /** The PROMISE that a VALUE is, or else a new one that is RESOLVED with it. */
        int promiseFor(long v) {
            if (Value.sortOf(v) == PROMISE) {
                return Value.numberOf(v);
            }
            int p = make();
            settleBy(p, FULFILLED, v, FIRST_KEY);
            return p;
        }

        int addKey(int p) {
            int key = lastKey.at(p) + 1;
            lastKey.put(p, key);
            keyUsed.put(p, 0);
            return key;
        }

        long toAdopt(int p) {
            return adopted.valueAt(p);
        }

        /** RESOLVES p with v by the KEY where how is FULFILLED, else REJECTS it. */
        void settleBy(int p, int how, long v, int key) {
            if (!has(p) || key != lastKey.at(p) || isKeyUsed(p)) {
                return;
            }
            keyUsed.put(p, 1);
            boolean withItself = how == FULFILLED && v == Value.of(PROMISE, p);
            int outcome = withItself ? REJECTED : how;
            if (outcome == FULFILLED && Value.sortOf(v) != NUMBER) {
                adopted.put(p, v);
                lineUp(jobOf(p, ADOPT), jobOf(p, ADOPT), 1);
                return;
            }
            status.put(p, outcome);
            value.put(p, withItself ? Value.of(NUMBER, ITSELF) : v);
            lineUp(firstReaction.at(p), lastReaction.at(p), reactions.at(p));
            reactions.put(p, 0);
        }

        void waitFor(int p, int job) {
            waitedFor.put(p, 1);
            source.put(job, p);
            if (status.at(p) != PENDING) {
                lineUp(job, job, 1);
                return;
            }
            int many = reactions.at(p);
            if (many == 0) {
                firstReaction.put(p, job);
            } else {
                next.put(lastReaction.at(p), job);
            }
            lastReaction.put(p, job);
            reactions.put(p, many + 1);
        }

        /** A chain of many JOBS comes behind all others. */
        private void lineUp(int first, int last, int many) {
            if (many == 0) {
                return;
            }
            if (jobs == 0) {
                firstJob = first;
            } else {
                next.put(lastJob, first);
            }
            lastJob = last;
            jobs += many;
        }

        int jobs() {
            return jobs;
        }

        /** Takes the next JOB out; only where there is one. */
        int takeJob() {
            int job = firstJob;
            firstJob = next.at(job);
            jobs--;
            return job;
        }

        int sourceOf(int job) {
            return source.at(job);
        }
    }

    private static final class Thenables {
        private final Row kinds = new Row(MOST_THENABLES);
        private final Row us = new Row(MOST_THENABLES);
        private final Row ws = new Row(MOST_THENABLES);

        Thenables() {
            clear();
        }

        void clear() {
            kinds.fill(SILENT);
        }

        void change(int t, int kind, long u, long w) {
            kinds.put(t, kind);
            us.put(t, u);
            ws.put(t, w);
        }

        int kindOf(int t) {
            return kinds.at(t);
        }

        long uOf(int t) {
            return us.valueAt(t);
        }

        long wOf(int t) {
            return ws.valueAt(t);
        }
    }

    /** The STEPS of the FUNCTIONS. */
    private static final class Functions {
        private final Row sizes = new Row(MOST_FUNCTIONS);
        private final Row kinds = new Row(MOST_FUNCTIONS * MOST_STEPS);
        private final Row values = new Row(MOST_FUNCTIONS * MOST_STEPS);

        static boolean mayBeStep(int what, int sort, int n) {
            switch (what) {
                case SET: return Value.exists(sort, n, MOST_PROMISES);
                case CALL: case THEN: case LATER: return isFunction(n);
                case IF: case LESS: return isWithin(n, MOST_STEPS + 1);
                case RESOLVE: case REJECT: return isWithin(n, MOST_PROMISES);
                default: return isWithin(what, STEP_KINDS);
            }
        }

        boolean isFull(int f) {
            return sizes.at(f) >= MOST_STEPS;
        }

        int add(int f, int what, long value) {
            int i = sizes.at(f);
            kinds.put(f * MOST_STEPS + i, what);
            values.put(f * MOST_STEPS + i, value);
            sizes.put(f, i + 1);
            return i + 1;
        }

        int removeAll(int f) {
            int many = sizes.at(f);
            sizes.put(f, 0);
            return many;
        }

        int sizeOf(int f) {
            return sizes.at(f);
        }

        int kindOf(int f, int i) {
            return kinds.at(f * MOST_STEPS + i);
        }

        long valueOf(int f, int i) {
            return values.valueAt(f * MOST_STEPS + i);
        }

        /** The number behind that of the END of the innermost TRY in which STEP i lies, or NOBODY. */
        int behindTry(int f, int i) {
            int around = 0;
            int inner = 0;
            for (int j = 0; j < sizes.at(f); j++) {
                int what = kindOf(f, j);
                if (what == TRY && j < i) {
                    around++;
                } else if (what == TRY) {
                    inner++;
                } else if (what == END && inner > 0) {
                    inner--;
                } else if (what == END && around > 0) {
                    if (j > i) {
                        return j + 1;
                    }
                    around--;
                }
            }
            return NOBODY;
        }
    }

    /** TIME, and the TASKS that are not done, in the order in which they came. */
    private static final class Tasks {
        private final Row functions = new Row(MOST_TASKS);
        private final Row values = new Row(MOST_TASKS);
        private final Row dues = new Row(MOST_TASKS);
        private int size = 0;
        private int time = 0;

        void clear() {
            size = 0;
            time = 0;
        }

        int size() {
            return size;
        }

        int time() {
            return time;
        }

        boolean isFull() {
            return size >= MOST_TASKS;
        }

        int add(int f, long value, int delay) {
            functions.put(size, f);
            values.put(size, value);
            dues.put(size, time + delay);
            size++;
            return size;
        }

        int dueFirst() {
            int first = 0;
            for (int i = 1; i < size; i++) {
                if (dues.at(i) < dues.at(first)) {
                    first = i;
                }
            }
            return first;
        }

        int functionOf(int task) {
            return functions.at(task);
        }

        long valueOf(int task) {
            return values.valueAt(task);
        }

        /** The TASK counts no more, and TIME is when it was due. */
        void finish(int task) {
            time = Math.max(time, dues.at(task));
            size--;
            for (int i = task; i < size; i++) {
                functions.put(i, functions.at(i + 1));
                values.put(i, values.valueAt(i + 1));
                dues.put(i, dues.at(i + 1));
            }
        }
    }

    /** The TURNS, and what was NOTED in them; the latest notes lie in a ring. */
    private static final class Notes {
        private final Row values = new Row(MOST_KEPT_NOTES);
        private final Row noteTurns = new Row(MOST_KEPT_NOTES);
        private int total = 0;
        private int turns = 0;

        void clear() {
            total = 0;
            turns = 0;
        }

        void beginTurn() {
            turns++;
        }

        int turns() {
            return turns;
        }

        int total() {
            return total;
        }

        int kept() {
            return Math.min(total, MOST_KEPT_NOTES);
        }

        void add(long value) {
            values.put(total % MOST_KEPT_NOTES, value);
            noteTurns.put(total % MOST_KEPT_NOTES, turns);
            total++;
        }

        long valueOf(int k) {
            return values.valueAt((total - 1 - k) % MOST_KEPT_NOTES);
        }

        int turnOf(int k) {
            return noteTurns.at((total - 1 - k) % MOST_KEPT_NOTES);
        }
    }

    /** The ITEMS, and the GROUPS; a GROUP has the number of its PROMISE. */
    private static final class Groups {
        private final Row items = new Row(MOST_ITEMS);
        private final Row kinds = new Row(MOST_PROMISES);
        private final Row placesLeft = new Row(MOST_PROMISES);
        private final Row sums = new Row(MOST_PROMISES);
        private final Promises promises;
        private int size = 0;

        Groups(Promises promises) {
            this.promises = promises;
        }

        void clear() {
            size = 0;
        }

        int items() {
            return size;
        }

        boolean isFull() {
            return size >= MOST_ITEMS;
        }

        int addItem(long value) {
            items.put(size, value);
            size++;
            return size;
        }

        /** If the PROMISES that a GROUP of the ITEMS makes still have room. */
        boolean hasRoom() {
            int made = promises.made() + 1;
            for (int i = 0; i < size; i++) {
                if (Value.sortOf(items.valueAt(i)) != PROMISE) {
                    made++;
                }
            }
            return made <= MOST_PROMISES;
        }

        int form(int kind) {
            int d = promises.make();
            kinds.put(d, kind);
            placesLeft.put(d, size);
            sums.put(d, 0);
            for (int i = 0; i < size; i++) {
                int p = promises.promiseFor(items.valueAt(i));
                promises.waitFor(p, jobOf(d, FIRST_PLACE + i));
            }
            size = 0;
            settleIfComplete(d);
            return d;
        }

        void settlePlace(int d, int i, int how, long value) {
            int kind = kinds.at(d);
            placesLeft.put(d, placesLeft.at(d) - 1);
            if (how == FULFILLED) {
                int worth = kind == ALL ? Value.numberOf(value) : 1;
                sums.put(d, sums.at(d) + (i + 1) * worth);
            }
            if (kind == RACE || kind == ALL && how == REJECTED || kind == ANY && how == FULFILLED) {
                promises.settleBy(d, how, value, FIRST_KEY);
            }
        }

        /** In vain where one PLACE has decided it already: its KEY is used then. */
        void settleIfComplete(int d) {
            if (placesLeft.at(d) > 0 || kinds.at(d) == RACE) {
                return;
            }
            if (kinds.at(d) == ANY) {
                promises.settleBy(d, REJECTED, Value.of(NUMBER, NO_WINNER), FIRST_KEY);
            } else {
                promises.settleBy(d, FULFILLED, Value.of(NUMBER, sums.at(d)), FIRST_KEY);
            }
        }
    }

    /**
     * Runs the FUNCTIONS. One that is STARTED has the number of its PROMISE, the one that is DONE
     * has the number DONE_ONE: there is never more than one, as a CALL STARTS. Those that run at
     * once are a chain of callers instead of calls of Java, so that its depth has no say here.
     */
    private static final class Runner {
        private static final int DONE_ONE = MOST_PROMISES;

        /** What comes of a STEP: the FUNCTION goes on, GIVES or THROWS X, or stops. */
        private static final int GOES_ON = PENDING, GIVES = FULFILLED, THROWS = REJECTED, STOPS = 3;

        /** Far above 200 STEPS, and those of 101 FUNCTIONS that only THROW behind these. */
        private static final int MOST_MOVES = 1000000;

        private final Functions functions;
        private final Promises promises;
        private final Tasks tasks;
        private final Notes notes;
        private final Row function = new Row(MOST_PROMISES + 1);
        private final Row place = new Row(MOST_PROMISES + 1);
        private final Row xs = new Row(MOST_PROMISES + 1);
        private final Row caller = new Row(MOST_PROMISES + 1);
        private final Row stopped = new Row(MOST_PROMISES);
        private final Row onFulfilled = new Row(MOST_PROMISES);
        private final Row onRejected = new Row(MOST_PROMISES);
        private int current = NOBODY;
        private int doneFor = NOBODY;
        private int steps = 0;

        Runner(Functions functions, Promises promises, Tasks tasks, Notes notes) {
            this.functions = functions;
            this.promises = promises;
            this.tasks = tasks;
            this.notes = notes;
        }

        void clear() {
            stopped.fill(0);
        }

        boolean isStopped(int r) {
            return stopped.at(r) == 1;
        }

        /** PROMISE p is WAITED for with HANDLERS f, g and a new PROMISE, the answer. */
        int addHandlers(int p, int f, int g) {
            int d = promises.make();
            onFulfilled.put(d, f);
            onRejected.put(d, g);
            promises.waitFor(p, jobOf(d, HANDLERS));
            return d;
        }

        void handle(int d, int how, long value) {
            int f = how == FULFILLED ? onFulfilled.at(d) : onRejected.at(d);
            if (f == NO_FUNCTION) {
                promises.settleBy(d, how, value, FIRST_KEY);
            } else {
                perform(f, value, d);
            }
        }

        /** FUNCTION f is DONE with x for PROMISE d, or for NOBODY, as soon as goOn comes. */
        void perform(int f, long x, int d) {
            doneFor = d;
            enter(DONE_ONE, f, x);
        }

        /** FUNCTION f is STARTED with x as soon as goOn comes; its PROMISE. */
        int begin(int f, long x) {
            int r = promises.make();
            enter(r, f, x);
            return r;
        }

        private void enter(int me, int f, long x) {
            function.put(me, f);
            place.put(me, 0);
            xs.put(me, x);
            caller.put(me, current);
            current = me;
        }

        /** The stopped FUNCTION of PROMISE r goes on as soon as goOn comes. */
        void resume(int r, int how, long value) {
            stopped.put(r, 0);
            caller.put(r, NOBODY);
            current = r;
            xs.put(r, value);
            if (how == REJECTED && !leaveTry(r, place.at(r) - 1)) {
                end(r, THROWS);
            }
        }

        /** Does STEPS until every FUNCTION that runs has stopped or ended. */
        void goOn() {
            steps = 0;
            for (int i = 0; i < MOST_MOVES && current != NOBODY; i++) {
                int me = current;
                int at = place.at(me);
                place.put(me, at + 1);
                int outcome = at < functions.sizeOf(function.at(me)) ? doStep(me, at) : giveZero(me);
                if (outcome == STOPS) {
                    stop(me);
                } else if (outcome == GIVES || outcome == THROWS && !leaveTry(me, at)) {
                    end(me, outcome);
                }
            }
        }

        private int doStep(int me, int at) {
            int what = functions.kindOf(function.at(me), at);
            long value = functions.valueOf(function.at(me), at);
            int n = Value.numberOf(value);
            long x = xs.valueAt(me);
            steps++;
            int fault = faultOf(me, what, value);
            if (fault != 0) {
                xs.put(me, Value.of(NUMBER, fault));
                return THROWS;
            }
            switch (what) {
                case NOTE: notes.add(value); break;
                case SHOW: notes.add(x); break;
                case SET: xs.put(me, value); break;
                case GIVE: return GIVES;
                case THROW: return THROWS;
                case AWAIT: return STOPS;
                case CALL: xs.put(me, Value.of(PROMISE, begin(n, x))); break;
                case RESOLVE: promises.settleBy(n, FULFILLED, x, FIRST_KEY); break;
                case REJECT: promises.settleBy(n, REJECTED, x, FIRST_KEY); break;
                case THEN:
                    xs.put(me, Value.of(PROMISE, addHandlers(Value.numberOf(x), n, NO_FUNCTION)));
                    break;
                case LATER: tasks.add(n, x, STEP_DELAY); break;
                case IF: jumpIfZero(me, n); break;
                case LESS: jumpIfAbove(me, n); break;
                default: break;
            }
            return GOES_ON;
        }

        /** The NUMBER that a STEP THROWS instead of being done, or 0. */
        private int faultOf(int me, int what, long value) {
            if (steps > MOST_STEPS_AT_ONCE) {
                return TOO_MUCH;
            }
            boolean hasPromise = Value.sortOf(xs.valueAt(me)) == PROMISE;
            int n = Value.numberOf(value);
            switch (what) {
                case SET:
                    return Value.sortOf(value) == PROMISE && !promises.has(n) ? NO_PROMISE : 0;
                case RESOLVE: case REJECT:
                    return promises.has(n) ? 0 : NO_PROMISE;
                case AWAIT:
                    if (me == DONE_ONE) {
                        return MAY_NOT_STOP;
                    }
                    return !hasPromise && promises.isFull() ? TOO_MUCH : 0;
                case THEN:
                    if (!hasPromise) {
                        return NO_PROMISE;
                    }
                    return promises.isFull() ? TOO_MUCH : 0;
                case CALL:
                    return promises.isFull() ? TOO_MUCH : 0;
                case LATER:
                    return tasks.isFull() ? TOO_MUCH : 0;
                default:
                    return 0;
            }
        }

        private void jumpIfZero(int me, int target) {
            if (xs.valueAt(me) == Value.of(NUMBER, 0)) {
                place.put(me, target);
            }
        }

        private void jumpIfAbove(int me, int target) {
            int n = Value.numberOf(xs.valueAt(me));
            if (Value.sortOf(xs.valueAt(me)) == NUMBER && n > 0) {
                xs.put(me, Value.of(NUMBER, n - 1));
                place.put(me, target);
            }
        }

        private int giveZero(int me) {
            xs.put(me, Value.of(NUMBER, 0));
            return GIVES;
        }

        /** Goes on behind the innermost TRY in which the STEP that THROWS lies; false if there is none. */
        private boolean leaveTry(int me, int at) {
            int behind = functions.behindTry(function.at(me), at);
            if (behind == NOBODY) {
                return false;
            }
            place.put(me, behind);
            return true;
        }

        private void stop(int me) {
            stopped.put(me, 1);
            current = caller.at(me);
            promises.waitFor(promises.promiseFor(xs.valueAt(me)), jobOf(me, GOING_ON));
        }

        private void end(int me, int how) {
            promises.settleBy(me == DONE_ONE ? doneFor : me, how, xs.valueAt(me), FIRST_KEY);
            current = caller.at(me);
        }
    }
}
