/** The promises 1 to 18 of the document, one after the other: ordinary inputs, edges, wrong inputs. */
public final class JobLoopPromisesTest implements Words {
    private static final int[] WRONG = {-1, Integer.MIN_VALUE, Integer.MAX_VALUE};

    private static final Due due = new Due("JobLoopPromisesTest");

    public static void main(String[] args) {
        newObject();
        promise();
        resolve();
        reject();
        then();
        thenable();
        step();
        throwingSteps();
        tries();
        jumps();
        empty();
        start();
        later();
        item();
        groupsOfKinds();
        groupsAtTheLimits();
        run();
        adoption();
        forget();
        state();
        noted();
        count();
        goingOnAfterChanges();
        stepLimit();
        due.close();
    }

    // ---- helpers

    /** A new object with so many PROMISES. */
    private static JobLoop with(int promises) {
        JobLoop x = new JobLoop();
        for (int i = 0; i < promises; i++) {
            x.promise();
        }
        return x;
    }

    /** Gives FUNCTION f the STEPS, each with the NUMBER behind it. */
    private static void steps(JobLoop x, int f, int... whatAndN) {
        for (int i = 0; i < whatAndN.length; i += 2) {
            x.step(f, whatAndN[i], NUMBER, whatAndN[i + 1]);
        }
    }

    private static void settled(String name, JobLoop x, int p, int how, int sort, int n) {
        due.is(name + ": state(" + p + ", 0)", x.state(p, 0), how);
        due.is(name + ": state(" + p + ", 1)", x.state(p, 1), sort);
        due.is(name + ": state(" + p + ", 2)", x.state(p, 2), n);
    }

    /** What was NOTED, the oldest first, as numbers alone. */
    private static void notes(String name, JobLoop x, long... want) {
        due.is(name + ": count(5)", x.count(5), want.length);
        for (int i = 0; i < want.length; i++) {
            due.is(name + ": note " + i, x.noted(want.length - 1 - i, 0), want[i]);
        }
    }

    // ---- 1

    private static void newObject() {
        JobLoop x = new JobLoop();
        for (int what = 0; what < 8; what++) {
            due.is("new: count(" + what + ")", x.count(what), 0);
        }
        due.is("new: state", x.state(0, 0), BAD);
        due.is("new: noted", x.noted(0, 0), JobLoop.NONE);
        due.is("new: run", x.run(60), 0);
        for (int f = 0; f < 10; f++) {
            due.is("new: empty(" + f + ")", x.empty(f), 0);
        }
        for (int t = 0; t < 4; t++) {
            int p = x.promise();
            x.resolve(p, THENABLE, t);
            due.is("new: a JOB to ADOPT", x.run(60), 1);
            due.is("new: THENABLE " + t + " does nothing", x.state(p, 0), PENDING);
            due.is("new: THENABLE " + t + " got KEY 1", x.state(p, 5), 1);
            due.is("new: THENABLE " + t + " left it", x.state(p, 6), 0);
        }
        due.is("NONE", JobLoop.NONE, 1099511627776L);
        due.is("BAD", JobLoop.BAD, BAD);
        due.is("FULL", JobLoop.FULL, FULL);
        due.is("PENDING", JobLoop.PENDING, PENDING);
        due.is("FULFILLED", JobLoop.FULFILLED, FULFILLED);
        due.is("REJECTED", JobLoop.REJECTED, REJECTED);
    }

    // ---- 2

    private static void promise() {
        JobLoop x = new JobLoop();
        for (int i = 0; i < 100; i++) {
            due.is("promise", x.promise(), i);
        }
        due.is("promise: full", x.promise(), FULL);
        due.is("promise: still full", x.promise(), FULL);
        due.is("promise: count", x.count(0), 100);
        due.is("promise: pending", x.state(99, 0), PENDING);
        due.is("promise: none behind", x.state(100, 0), BAD);
    }

    // ---- 3

    private static void resolve() {
        JobLoop x = with(3);
        due.is("resolve", x.resolve(0, NUMBER, Integer.MIN_VALUE), true);
        settled("resolve", x, 0, FULFILLED, NUMBER, Integer.MIN_VALUE);
        due.is("resolve: again", x.resolve(0, NUMBER, 6), true);
        due.is("resolve: rejected after it", x.reject(0, NUMBER, 6), true);
        settled("resolve: once", x, 0, FULFILLED, NUMBER, Integer.MIN_VALUE);
        due.is("resolve: with itself", x.resolve(1, PROMISE, 1), true);
        settled("resolve: with itself", x, 1, REJECTED, NUMBER, -1);
        for (int wrong : WRONG) {
            due.is("resolve: no promise", x.resolve(wrong, NUMBER, 0), false);
            due.is("resolve: no sort", x.resolve(2, wrong, 0), false);
            due.is("resolve: promise of no number", x.resolve(2, PROMISE, wrong), false);
            due.is("resolve: thenable of no number", x.resolve(2, THENABLE, wrong), false);
        }
        due.is("resolve: not made", x.resolve(3, NUMBER, 0), false);
        due.is("resolve: sort 3", x.resolve(2, 3, 0), false);
        due.is("resolve: with one not made", x.resolve(2, PROMISE, 3), false);
        due.is("resolve: with thenable 4", x.resolve(2, THENABLE, 4), false);
        due.is("resolve: nothing changed", x.state(2, 6), 0);
        due.is("resolve: no jobs", x.count(1), 0);
        due.is("resolve: thenable 3", x.resolve(2, THENABLE, 3), true);
        due.is("resolve: a job to adopt", x.count(1), 1);
        due.is("resolve: pending till then", x.state(2, 0), PENDING);
        due.is("resolve: but its key is used", x.state(2, 6), 1);
        reactionsInOrder();
    }

    private static void reactionsInOrder() {
        JobLoop x = with(2);
        steps(x, 1, NOTE, 1);
        steps(x, 2, NOTE, 2);
        steps(x, 3, NOTE, 3);
        x.then(0, 1, -1);
        x.then(0, 2, -1);
        x.then(1, 3, -1);
        x.resolve(1, NUMBER, 0);
        x.resolve(0, NUMBER, 0);
        x.then(0, 3, -1);
        x.then(0, 1, -1);
        due.is("reactions: jobs", x.count(1), 5);
        due.is("reactions: none left", x.state(0, 4), 0);
        due.is("reactions: turns", x.run(60), 5);
        notes("reactions", x, 3, 1, 2, 3, 1);
    }

    // ---- 4

    private static void reject() {
        JobLoop x = with(6);
        due.is("reject", x.reject(0, NUMBER, 7), true);
        settled("reject", x, 0, REJECTED, NUMBER, 7);
        due.is("reject: then resolved", x.resolve(0, NUMBER, 8), true);
        due.is("reject: again", x.reject(0, NUMBER, 9), true);
        settled("reject: once", x, 0, REJECTED, NUMBER, 7);
        due.is("reject: with a promise", x.reject(1, PROMISE, 5), true);
        settled("reject: with a promise", x, 1, REJECTED, PROMISE, 5);
        due.is("reject: with itself", x.reject(2, PROMISE, 2), true);
        settled("reject: with itself", x, 2, REJECTED, PROMISE, 2);
        due.is("reject: with a thenable", x.reject(3, THENABLE, 3), true);
        settled("reject: with a thenable", x, 3, REJECTED, THENABLE, 3);
        due.is("reject: no jobs", x.count(1), 0);
        for (int wrong : WRONG) {
            due.is("reject: no promise", x.reject(wrong, NUMBER, 0), false);
            due.is("reject: no sort", x.reject(4, wrong, 0), false);
            due.is("reject: promise of no number", x.reject(4, PROMISE, wrong), false);
            due.is("reject: thenable of no number", x.reject(4, THENABLE, wrong), false);
        }
        due.is("reject: not made", x.reject(6, NUMBER, 0), false);
        due.is("reject: with one not made", x.reject(4, PROMISE, 6), false);
        due.is("reject: with thenable 4", x.reject(4, THENABLE, 4), false);
        due.is("reject: nothing changed", x.state(4, 0), PENDING);
        x.resolve(4, PROMISE, 5);
        x.reject(4, NUMBER, 1);
        due.is("reject: in vain while it adopts", x.state(4, 0), PENDING);
        x.run(1);
        due.is("reject: key 0 is no more the last", x.state(4, 5), 1);
        x.reject(4, NUMBER, 1);
        due.is("reject: in vain by key 0", x.state(4, 0), PENDING);
    }

    // ---- 5

    private static void then() {
        JobLoop x = with(2);
        steps(x, 0, SHOW, 0, SET, 40, GIVE, 0);
        steps(x, 1, SHOW, 0, SET, 50, THROW, 0);
        due.is("then", x.then(0, 0, 1), 2);
        due.is("then: reactions", x.state(0, 4), 1);
        due.is("then: f throws", x.then(0, 1, 0), 3);
        due.is("then: no f", x.then(0, -1, 1), 4);
        due.is("then: of the new one", x.then(2, 0, 1), 5);
        x.resolve(0, NUMBER, 4);
        due.is("then: turns", x.run(60), 4);
        settled("then: gives", x, 2, FULFILLED, NUMBER, 40);
        settled("then: throws", x, 3, REJECTED, NUMBER, 50);
        settled("then: passes on", x, 4, FULFILLED, NUMBER, 4);
        settled("then: in a chain", x, 5, FULFILLED, NUMBER, 40);
        notes("then", x, 4, 4, 40);
        x.reject(1, THENABLE, 2);
        due.is("then: g", x.then(1, 1, 0), 6);
        due.is("then: no g", x.then(1, 1, -1), 7);
        due.is("then: a job at once", x.count(1), 2);
        x.run(60);
        settled("then: g gives", x, 6, FULFILLED, NUMBER, 40);
        settled("then: passes the rejection on", x, 7, REJECTED, THENABLE, 2);
        due.is("then: g had the value", x.noted(0, 0), 2);
        due.is("then: g had its sort", x.noted(0, 1), THENABLE);
        x.resolve(5, NUMBER, 9);
        settled("then: d was settled before", x, 5, FULFILLED, NUMBER, 40);
        thenWrong();
    }

    private static void thenWrong() {
        JobLoop x = with(1);
        for (int wrong : new int[] {-2, 10, Integer.MIN_VALUE, Integer.MAX_VALUE}) {
            due.is("then: f " + wrong, x.then(0, wrong, 0), BAD);
            due.is("then: g " + wrong, x.then(0, 0, wrong), BAD);
            due.is("then: p " + wrong, x.then(wrong, 0, 0), BAD);
        }
        due.is("then: not made", x.then(1, 0, 0), BAD);
        due.is("then: p -1", x.then(-1, 0, 0), BAD);
        due.is("then: nothing came", x.state(0, 4), 0);
        for (int i = 1; i < 100; i++) {
            due.is("then: room", x.then(0, 9, -1), i);
        }
        due.is("then: full", x.then(0, 9, -1), FULL);
        due.is("then: bad before full", x.then(0, 10, -1), BAD);
        due.is("then: reactions", x.state(0, 4), 99);
        due.is("then: as handler of the last one", x.resolve(0, NUMBER, 1), true);
        due.is("then: jobs", x.count(1), 99);
        x.run(60);
        x.run(60);
        settled("then: without steps", x, 99, FULFILLED, NUMBER, 0);
    }

    // ---- 6

    private static void thenable() {
        JobLoop x = with(9);
        due.is("thenable 0", x.thenable(0, 0, NUMBER, 6, NUMBER, 7), true);
        due.is("thenable 1", x.thenable(1, 1, PROMISE, 8, NUMBER, 7), true);
        due.is("thenable 2", x.thenable(2, 2, NUMBER, -6, NUMBER, -7), true);
        due.is("thenable 3", x.thenable(3, 3, NUMBER, 6, NUMBER, 7), true);
        for (int t = 0; t < 4; t++) {
            x.resolve(t, THENABLE, t);
        }
        due.is("thenable: turns", x.run(60), 4);
        settled("thenable: resolves", x, 0, FULFILLED, NUMBER, 6);
        settled("thenable: rejects", x, 1, REJECTED, PROMISE, 8);
        settled("thenable: resolves first", x, 2, FULFILLED, NUMBER, -6);
        due.is("thenable: nothing", x.state(3, 0), PENDING);
        due.is("thenable: the same again", x.thenable(0, 0, THENABLE, 0, NUMBER, 0), true);
        x.resolve(4, THENABLE, 0);
        due.is("thenable: resolves with itself", x.run(10), 10);
        due.is("thenable: keys", x.state(4, 5), 10);
        due.is("thenable: each used", x.state(4, 6), 1);
        due.is("thenable: a job comes", x.count(1), 1);
        due.is("thenable: the kind at that time", x.thenable(0, 0, PROMISE, 4, NUMBER, 0), true);
        x.run(1);
        settled("thenable: resolves p with p", x, 4, REJECTED, NUMBER, -1);
        x.thenable(1, 2, PROMISE, 8, NUMBER, 7);
        x.resolve(5, THENABLE, 1);
        x.run(2);
        due.is("thenable: the rejection is in vain", x.state(5, 0), PENDING);
        due.is("thenable: waits for the promise", x.state(8, 4), 1);
        x.resolve(8, NUMBER, 3);
        x.run(1);
        settled("thenable: adopted", x, 5, FULFILLED, NUMBER, 3);
        thenableWrong();
    }

    private static void thenableWrong() {
        JobLoop x = with(2);
        x.thenable(0, 0, NUMBER, 6, NUMBER, 7);
        for (int wrong : WRONG) {
            due.is("thenable: t " + wrong, x.thenable(wrong, 1, NUMBER, 0, NUMBER, 0), false);
            due.is("thenable: kind " + wrong, x.thenable(0, wrong, NUMBER, 0, NUMBER, 0), false);
            due.is("thenable: u's sort " + wrong, x.thenable(0, 1, wrong, 0, NUMBER, 0), false);
            due.is("thenable: w's sort " + wrong, x.thenable(0, 1, NUMBER, 0, wrong, 0), false);
            due.is("thenable: u " + wrong, x.thenable(0, 1, THENABLE, wrong, NUMBER, 0), false);
            due.is("thenable: w " + wrong, x.thenable(0, 1, NUMBER, 0, PROMISE, wrong), false);
        }
        due.is("thenable: t 4", x.thenable(4, 1, NUMBER, 0, NUMBER, 0), false);
        due.is("thenable: kind 4", x.thenable(0, 4, NUMBER, 0, NUMBER, 0), false);
        due.is("thenable: u not made", x.thenable(0, 1, PROMISE, 2, NUMBER, 0), false);
        due.is("thenable: w not made", x.thenable(0, 1, NUMBER, 0, PROMISE, 2), false);
        due.is("thenable: w is no thenable", x.thenable(0, 3, NUMBER, 0, THENABLE, 4), false);
        x.resolve(0, THENABLE, 0);
        x.run(1);
        settled("thenable: nothing changed", x, 0, FULFILLED, NUMBER, 6);
    }

    // ---- 7

    private static void step() {
        JobLoop x = new JobLoop();
        for (int wrong : WRONG) {
            due.is("step: f " + wrong, x.step(wrong, NOTE, 0, 0), BAD);
            due.is("step: what " + wrong, x.step(0, wrong, 0, 0), BAD);
            due.is("step: SET sort " + wrong, x.step(0, SET, wrong, 0), BAD);
            due.is("step: SET promise " + wrong, x.step(0, SET, PROMISE, wrong), BAD);
            due.is("step: SET thenable " + wrong, x.step(0, SET, THENABLE, wrong), BAD);
            for (int what : new int[] {CALL, THEN, LATER, IF, LESS, RESOLVE, REJECT}) {
                due.is("step: " + what + " with " + wrong, x.step(0, what, 0, wrong), BAD);
            }
        }
        due.is("step: f 10", x.step(10, NOTE, 0, 0), BAD);
        due.is("step: what 15", x.step(0, 15, 0, 0), BAD);
        due.is("step: SET sort 3", x.step(0, SET, 3, 0), BAD);
        due.is("step: SET promise 100", x.step(0, SET, PROMISE, 100), BAD);
        due.is("step: SET thenable 4", x.step(0, SET, THENABLE, 4), BAD);
        for (int what : new int[] {CALL, THEN, LATER}) {
            due.is("step: function 10", x.step(0, what, 0, 10), BAD);
        }
        for (int what : new int[] {IF, LESS}) {
            due.is("step: step 11", x.step(0, what, 0, 11), BAD);
        }
        for (int what : new int[] {RESOLVE, REJECT}) {
            due.is("step: promise 100", x.step(0, what, 0, 100), BAD);
        }
        due.is("step: none came", x.empty(0), 0);
        int[] most = {Integer.MIN_VALUE, -5, 0, -5, -5, -5, -5, -5, 9, 99, 99, 9, 9, 10, 10};
        for (int what = 0; what < 15; what++) {
            int sort = what == SET ? NUMBER : 77;
            due.is("step: what " + what, x.step(what / 8, what, sort, most[what]), what % 8 + 1);
        }
        due.is("step: SET promise 99", x.step(2, SET, PROMISE, 99), 1);
        due.is("step: SET thenable 3", x.step(2, SET, THENABLE, 3), 2);
        due.is("step: SET any number", x.step(2, SET, NUMBER, Integer.MIN_VALUE), 3);
        for (int i = 1; i <= 10; i++) {
            due.is("step: the most", x.step(9, NOTE, 0, i), i);
        }
        due.is("step: full", x.step(9, NOTE, 0, 0), FULL);
        due.is("step: bad before full", x.step(9, CALL, 0, 10), BAD);
        stepsOfEachKind();
    }

    private static void stepsOfEachKind() {
        JobLoop x = with(3);
        steps(x, 0, NOTE, -8, SHOW, 0, SET, 5, SHOW, 0, RESOLVE, 0, REJECT, 1, SHOW, 0);
        due.is("steps: start", x.start(0, THENABLE, 1), 3);
        notes("steps", x, -8, 1, 5, 5);
        due.is("steps: sort of a NOTE", x.noted(3, 1), NUMBER);
        due.is("steps: sort of X", x.noted(2, 1), THENABLE);
        settled("steps: RESOLVE", x, 0, FULFILLED, NUMBER, 5);
        settled("steps: REJECT", x, 1, REJECTED, NUMBER, 5);
        settled("steps: behind the last", x, 3, FULFILLED, NUMBER, 0);
        steps(x, 1, SHOW, 0, GIVE, 0, NOTE, 99);
        steps(x, 2, CALL, 1, SHOW, 0, GIVE, 0);
        due.is("steps: CALL", x.start(2, NUMBER, 6), 4);
        settled("steps: the called one", x, 5, FULFILLED, NUMBER, 6);
        due.is("steps: X is its PROMISE", x.noted(0, 0), 5);
        due.is("steps: and no number", x.noted(0, 1), PROMISE);
        due.is("steps: the called one was first", x.noted(1, 0), 6);
        x.run(60);
        settled("steps: adopted what it gives", x, 4, FULFILLED, NUMBER, 6);
        steps(x, 3, THEN, 1, SHOW, 0, GIVE, 0);
        due.is("steps: THEN", x.start(3, PROMISE, 0), 6);
        due.is("steps: THEN's new one", x.noted(0, 0), 7);
        x.run(60);
        settled("steps: THEN passed through f", x, 6, FULFILLED, NUMBER, 5);
        steps(x, 4, LATER, 1, THROW, 0);
        due.is("steps: LATER", x.start(4, NUMBER, 12), 8);
        settled("steps: THROW", x, 8, REJECTED, NUMBER, 12);
        due.is("steps: one task", x.count(3), 1);
        due.is("steps: task's turn", x.run(60), 1);
        due.is("steps: 5 from then", x.count(4), 5);
        due.is("steps: with X", x.noted(0, 0), 12);
        steps(x, 5, SET, 1, THEN, 1);
        x.start(5, NUMBER, 0);
        settled("steps: THEN rejected: no number may be waited for", x, 9, REJECTED, NUMBER, -3);
    }

    private static void throwingSteps() {
        JobLoop x = with(1);
        x.step(0, SET, PROMISE, 9);
        x.start(0, NUMBER, 0);
        settled("throws: SET of none", x, 1, REJECTED, NUMBER, -3);
        steps(x, 1, RESOLVE, 40);
        x.start(1, NUMBER, 0);
        settled("throws: RESOLVE of none", x, 2, REJECTED, NUMBER, -3);
        steps(x, 2, REJECT, 40);
        x.start(2, NUMBER, 0);
        settled("throws: REJECT of none", x, 3, REJECTED, NUMBER, -3);
        steps(x, 3, THEN, 0);
        x.start(3, THENABLE, 0);
        settled("throws: THEN of a thenable", x, 4, REJECTED, NUMBER, -3);
        steps(x, 4, AWAIT, 0, NOTE, 1);
        x.resolve(0, NUMBER, 1);
        x.then(0, 4, -1);
        x.run(60);
        settled("throws: AWAIT in one that is done", x, 5, REJECTED, NUMBER, -2);
        due.is("throws: nothing noted", x.count(5), 0);
        steps(x, 5, TRY, 0, AWAIT, 0, END, 0, SHOW, 0, CALL, 4);
        x.later(5, PROMISE, 0, 0);
        x.run(1);
        due.is("throws: AWAIT in a task", x.noted(0, 0), -2);
        due.is("throws: but not in one that it calls", x.state(6, 7), 1);
        throwingAtTheLimits();
    }

    private static void throwingAtTheLimits() {
        JobLoop x = with(98);
        steps(x, 0, TRY, 0, CALL, 1, END, 0, SHOW, 0);
        x.start(0, NUMBER, 3);
        due.is("limits: the 100th by CALL", x.count(0), 100);
        due.is("limits: X", x.noted(0, 0), 99);
        due.is("limits: start is full", x.start(0, NUMBER, 3), FULL);
        x.later(0, NUMBER, 3, 0);
        x.run(1);
        due.is("limits: CALL throws", x.noted(0, 0), -4);
        steps(x, 2, TRY, 0, THEN, 1, END, 0, SHOW, 0);
        x.later(2, PROMISE, 3, 0);
        x.run(1);
        due.is("limits: THEN throws", x.noted(0, 0), -4);
        due.is("limits: and waits for nothing", x.state(3, 4), 0);
        x.later(2, NUMBER, 3, 0);
        x.run(1);
        due.is("limits: THEN without a promise", x.noted(0, 0), -3);
        awaitAtTheLimit(NUMBER, 5);
        awaitAtTheLimit(THENABLE, 1);
        JobLoop y = with(99);
        steps(y, 0, TRY, 0, AWAIT, 0, END, 0, SHOW, 0);
        y.start(0, PROMISE, 4);
        due.is("limits: AWAIT of a promise stops", y.state(99, 7), 1);
        JobLoop z = new JobLoop();
        steps(z, 0, TRY, 0, LATER, 0, END, 0, SHOW, 0);
        for (int i = 1; i < 32; i++) {
            due.is("limits: later", z.later(1, NUMBER, 0, 9), i);
        }
        z.start(0, NUMBER, 7);
        due.is("limits: the 32nd task", z.noted(0, 0), 7);
        z.start(0, NUMBER, 8);
        due.is("limits: LATER throws", z.noted(0, 0), -4);
        due.is("limits: 32 tasks", z.count(3), 32);
        due.is("limits: no longer counts in its turn", z.run(1), 1);
        due.is("limits: it came back by LATER", z.count(3), 32);
    }

    private static void awaitAtTheLimit(int sort, int n) {
        JobLoop x = with(99);
        steps(x, 0, TRY, 0, AWAIT, 0, END, 0, SHOW, 0);
        due.is("limits: the 100th by start", x.start(0, sort, n), 99);
        due.is("limits: AWAIT throws", x.noted(0, 0), -4);
        due.is("limits: and stops nothing", x.state(99, 7), 0);
    }

    private static void tries() {
        JobLoop x = new JobLoop();
        steps(x, 0, TRY, 0, TRY, 0, THROW, 0, END, 0, NOTE, 1, THROW, 0, NOTE, 2, END, 0, NOTE, 3);
        x.start(0, NUMBER, 7);
        notes("try: the innermost one", x, 1, 3);
        steps(x, 1, TRY, 0, THROW, 0, NOTE, 4);
        x.start(1, NUMBER, 7);
        settled("try: without END it holds nothing", x, 1, REJECTED, NUMBER, 7);
        steps(x, 2, TRY, 0, TRY, 0, NOTE, 5, END, 0, THROW, 0, NOTE, 6);
        x.start(2, NUMBER, 8);
        settled("try: END belongs to the latest", x, 2, REJECTED, NUMBER, 8);
        steps(x, 3, END, 0, TRY, 0, THROW, 0, TRY, 0, END, 0, END, 0, END, 0, SHOW, 0);
        x.start(3, NUMBER, 9);
        notes("try: END without TRY", x, 1, 3, 5, 9);
        steps(x, 4, TRY, 0, END, 0, THROW, 0);
        x.start(4, NUMBER, 10);
        settled("try: behind END", x, 4, REJECTED, NUMBER, 10);
        steps(x, 5, THROW, 0, TRY, 0, END, 0);
        x.start(5, NUMBER, 11);
        settled("try: before TRY", x, 5, REJECTED, NUMBER, 11);
        steps(x, 6, IF, 2, TRY, 0, THROW, 0, END, 0, NOTE, 12);
        x.start(6, NUMBER, 0);
        due.is("try: also when it was jumped over", x.noted(0, 0), 12);
    }

    private static void jumps() {
        JobLoop x = new JobLoop();
        steps(x, 0, IF, 2, NOTE, 1, NOTE, 2);
        x.start(0, NUMBER, 0);
        notes("IF: 0", x, 2);
        x.start(0, NUMBER, 1);
        notes("IF: 1", x, 2, 1, 2);
        x.start(0, THENABLE, 0);
        notes("IF: thenable 0", x, 2, 1, 2, 1, 2);
        x.start(0, PROMISE, 0);
        notes("IF: promise 0", x, 2, 1, 2, 1, 2, 1, 2);
        steps(x, 1, IF, 10, NOTE, 3);
        due.is("IF: behind all", x.start(1, NUMBER, 0), 4);
        settled("IF: behind all", x, 4, FULFILLED, NUMBER, 0);
        JobLoop y = new JobLoop();
        steps(y, 0, SHOW, 0, LESS, 0, GIVE, 0);
        y.start(0, NUMBER, 3);
        notes("LESS", y, 3, 2, 1, 0);
        settled("LESS: at last", y, 0, FULFILLED, NUMBER, 0);
        y.start(0, NUMBER, -2);
        due.is("LESS: below 0", y.count(5), 5);
        settled("LESS: below 0", y, 1, FULFILLED, NUMBER, -2);
        y.start(0, THENABLE, 2);
        due.is("LESS: a thenable", y.count(5), 6);
    }

    // ---- 8

    private static void empty() {
        JobLoop x = with(2);
        for (int wrong : WRONG) {
            due.is("empty: " + wrong, x.empty(wrong), BAD);
        }
        due.is("empty: 10", x.empty(10), BAD);
        steps(x, 9, AWAIT, 0, NOTE, 1, GIVE, 0);
        x.start(9, PROMISE, 0);
        x.start(9, PROMISE, 1);
        due.is("empty", x.empty(9), 3);
        due.is("empty: again", x.empty(9), 0);
        x.resolve(0, NUMBER, 4);
        x.reject(1, NUMBER, 5);
        x.run(60);
        settled("empty: gives 0", x, 2, FULFILLED, NUMBER, 0);
        settled("empty: throws", x, 3, REJECTED, NUMBER, 5);
        due.is("empty: nothing noted", x.count(5), 0);
        due.is("empty: first step again", x.step(9, NOTE, 0, 3), 1);
    }

    // ---- 9

    private static void start() {
        JobLoop x = with(1);
        for (int wrong : WRONG) {
            due.is("start: f " + wrong, x.start(wrong, NUMBER, 0), BAD);
            due.is("start: sort " + wrong, x.start(0, wrong, 0), BAD);
            due.is("start: promise " + wrong, x.start(0, PROMISE, wrong), BAD);
            due.is("start: thenable " + wrong, x.start(0, THENABLE, wrong), BAD);
        }
        due.is("start: f 10", x.start(10, NUMBER, 0), BAD);
        due.is("start: not made", x.start(0, PROMISE, 1), BAD);
        due.is("start: none came", x.count(0), 1);
        due.is("start: without steps", x.start(0, PROMISE, 0), 1);
        settled("start: without steps", x, 1, FULFILLED, NUMBER, 0);
        steps(x, 1, GIVE, 0);
        x.start(1, THENABLE, 3);
        due.is("start: gives a thenable", x.state(2, 0), PENDING);
        due.is("start: a job to adopt it", x.count(1), 1);
        steps(x, 2, AWAIT, 0, SHOW, 0, AWAIT, 0, SHOW, 0, THROW, 0);
        due.is("start: stops", x.start(2, NUMBER, 21), 3);
        due.is("start: stopped", x.state(3, 7), 1);
        due.is("start: a new one for a number", x.state(4, 2), 21);
        due.is("start: which is waited for", x.count(1), 2);
        due.is("start: it goes on", x.run(60), 3);
        notes("start", x, 21, 21);
        due.is("start: in turns", x.noted(0, 2), 3);
        settled("start: throws at its end", x, 3, REJECTED, NUMBER, 21);
        x.step(3, SET, PROMISE, 6);
        steps(x, 3, GIVE, 0);
        due.is("start: gives itself", x.start(3, NUMBER, 0), 6);
        settled("start: gives itself", x, 6, REJECTED, NUMBER, -1);
        x.step(4, SET, PROMISE, 7);
        steps(x, 4, AWAIT, 0, SHOW, 0, SET, 1, GIVE, 0);
        due.is("start: awaits itself", x.start(4, NUMBER, 0), 7);
        x.resolve(7, NUMBER, 70);
        x.run(60);
        due.is("start: went on with what it was resolved with", x.noted(0, 0), 70);
        settled("start: its end is in vain then", x, 7, FULFILLED, NUMBER, 70);
        startAwaitsAThenable();
        JobLoop y = with(100);
        due.is("start: full", y.start(0, NUMBER, 0), FULL);
        due.is("start: bad before full", y.start(10, NUMBER, 0), BAD);
    }

    private static void startAwaitsAThenable() {
        JobLoop x = new JobLoop();
        steps(x, 0, AWAIT, 0, SHOW, 0);
        x.thenable(2, 0, NUMBER, 33, NUMBER, 0);
        x.start(0, THENABLE, 2);
        due.is("await thenable: reaction", x.state(1, 4), 1);
        due.is("await thenable: adopt, go on", x.run(60), 2);
        notes("await thenable", x, 33);
    }

    // ---- 10

    private static void later() {
        JobLoop x = with(1);
        for (int wrong : WRONG) {
            due.is("later: f " + wrong, x.later(wrong, NUMBER, 0, 0), BAD);
            due.is("later: sort " + wrong, x.later(0, wrong, 0, 0), BAD);
            due.is("later: promise " + wrong, x.later(0, PROMISE, wrong, 0), BAD);
            due.is("later: time " + wrong, x.later(0, NUMBER, 0, wrong), BAD);
        }
        due.is("later: f 10", x.later(10, NUMBER, 0, 0), BAD);
        due.is("later: promise 1", x.later(0, PROMISE, 1, 0), BAD);
        due.is("later: thenable 4", x.later(0, THENABLE, 4, 0), BAD);
        due.is("later: time 1001", x.later(0, NUMBER, 0, 1001), BAD);
        steps(x, 0, SHOW, 0, THROW, 0);
        steps(x, 1, SHOW, 0);
        due.is("later: 1000", x.later(0, NUMBER, 1, 1000), 1);
        due.is("later: 7", x.later(1, NUMBER, 2, 7), 2);
        due.is("later: 7 again", x.later(0, PROMISE, 0, 7), 3);
        due.is("later: 0", x.later(0, NUMBER, 4, 0), 4);
        due.is("later: the first", x.run(1), 1);
        due.is("later: time stays", x.count(4), 0);
        due.is("later: 0 again", x.later(0, NUMBER, 5, 0), 4);
        due.is("later: the others", x.run(60), 4);
        notes("later", x, 4, 5, 2, 0, 1);
        due.is("later: with a promise", x.noted(1, 1), PROMISE);
        due.is("later: time", x.count(4), 1000);
        due.is("later: from the time on", x.later(0, NUMBER, 6, 3), 1);
        x.run(1);
        due.is("later: time", x.count(4), 1003);
        due.is("later: what it throws is lost", x.count(6), 0);
        for (int i = 1; i <= 32; i++) {
            due.is("later: room", x.later(1, NUMBER, i, 32 - i), i);
        }
        due.is("later: full", x.later(1, NUMBER, 0, 0), FULL);
        due.is("later: bad before full", x.later(1, NUMBER, 0, -1), BAD);
        due.is("later: all", x.run(60), 32);
        due.is("later: the last one", x.noted(0, 0), 1);
        due.is("later: the first one", x.noted(31, 0), 32);
    }

    // ---- 11

    private static void item() {
        JobLoop x = with(1);
        for (int wrong : WRONG) {
            due.is("item: sort " + wrong, x.item(wrong, 0), BAD);
            due.is("item: promise " + wrong, x.item(PROMISE, wrong), BAD);
            due.is("item: thenable " + wrong, x.item(THENABLE, wrong), BAD);
        }
        due.is("item: not made", x.item(PROMISE, 1), BAD);
        due.is("item: thenable 4", x.item(THENABLE, 4), BAD);
        due.is("item: none", x.count(7), 0);
        for (int i = 1; i <= 5; i++) {
            due.is("item", x.item(i % 3, 0), i);
        }
        due.is("item: full", x.item(NUMBER, 0), FULL);
        due.is("item: bad before full", x.item(3, 0), BAD);
        due.is("item: five", x.count(7), 5);
    }

    // ---- 12

    /** A GROUP of so many new PROMISES, the numbers from 0 on; its own has the number behind. */
    private static JobLoop grouped(int kind, int promises) {
        JobLoop x = with(promises);
        for (int p = 0; p < promises; p++) {
            x.item(PROMISE, p);
        }
        due.is("group: " + kind, x.group(kind), promises);
        due.is("group: no items then", x.count(7), 0);
        return x;
    }

    private static void groupsOfKinds() {
        JobLoop all = grouped(ALL, 3);
        all.resolve(2, NUMBER, 100);
        all.resolve(0, NUMBER, Integer.MAX_VALUE);
        all.run(60);
        due.is("ALL: waits for all", all.state(3, 0), PENDING);
        all.resolve(1, NUMBER, 10);
        all.run(60);
        settled("ALL: sum that wraps", all, 3, FULFILLED, NUMBER, Integer.MAX_VALUE + 320);
        JobLoop none = grouped(ALL, 3);
        none.resolve(0, NUMBER, 1);
        none.reject(2, THENABLE, 3);
        none.reject(1, NUMBER, 8);
        due.is("ALL: nobody is loose", none.count(6), 0);
        none.run(60);
        settled("ALL: the first that was rejected", none, 3, REJECTED, THENABLE, 3);
        JobLoop race = grouped(RACE, 3);
        race.reject(2, PROMISE, 0);
        race.resolve(1, NUMBER, 4);
        race.run(60);
        settled("RACE: rejected", race, 3, REJECTED, PROMISE, 0);
        JobLoop won = grouped(RACE, 2);
        won.resolve(1, NUMBER, 4);
        won.reject(0, NUMBER, 5);
        won.run(60);
        settled("RACE: fulfilled", won, 2, FULFILLED, NUMBER, 4);
        JobLoop settled = grouped(SETTLED, 4);
        settled.reject(3, NUMBER, 9);
        settled.resolve(2, NUMBER, 9);
        settled.resolve(0, NUMBER, 9);
        settled.run(60);
        due.is("SETTLED: waits for all", settled.state(4, 0), PENDING);
        settled.reject(1, NUMBER, 9);
        settled.run(60);
        settled("SETTLED: places that were fulfilled", settled, 4, FULFILLED, NUMBER, 4);
        JobLoop any = grouped(ANY, 3);
        any.reject(0, NUMBER, 6);
        any.resolve(2, NUMBER, 7);
        any.resolve(1, NUMBER, 8);
        any.run(60);
        settled("ANY: the first that was fulfilled", any, 3, FULFILLED, NUMBER, 7);
        JobLoop lost = grouped(ANY, 2);
        lost.reject(0, NUMBER, 6);
        lost.run(60);
        due.is("ANY: waits for all", lost.state(2, 0), PENDING);
        lost.reject(1, NUMBER, 7);
        lost.run(60);
        settled("ANY: all rejected", lost, 2, REJECTED, NUMBER, -5);
    }

    private static void groupsAtTheLimits() {
        JobLoop x = new JobLoop();
        for (int kind = 0; kind < 4; kind++) {
            due.is("group: without items", x.group(kind), kind);
        }
        settled("ALL: without items", x, ALL, FULFILLED, NUMBER, 0);
        due.is("RACE: without items", x.state(RACE, 0), PENDING);
        settled("SETTLED: without items", x, SETTLED, FULFILLED, NUMBER, 0);
        settled("ANY: without items", x, ANY, REJECTED, NUMBER, -5);
        due.is("ANY: it is loose", x.state(ANY, 3), 1);
        x.item(NUMBER, 5);
        for (int wrong : new int[] {-1, 4, Integer.MIN_VALUE, Integer.MAX_VALUE}) {
            due.is("group: kind " + wrong, x.group(wrong), BAD);
        }
        due.is("group: nothing changed", x.count(7), 1);
        x.item(THENABLE, 0);
        x.item(PROMISE, 0);
        x.item(PROMISE, 0);
        x.thenable(0, 0, NUMBER, 7, NUMBER, 0);
        due.is("group: the promise first", x.group(ALL), 4);
        due.is("group: two for values that are none", x.count(0), 7);
        settled("group: the number's", x, 5, FULFILLED, NUMBER, 5);
        due.is("group: the thenable's is waited for", x.state(6, 4), 1);
        due.is("group: three places and one to adopt", x.count(1), 4);
        due.is("group: turns", x.run(60), 5);
        settled("group: 5*1 + 7*2 + 0*3 + 0*4", x, 4, FULFILLED, NUMBER, 19);
        JobLoop y = with(96);
        y.item(NUMBER, 1);
        y.item(PROMISE, 0);
        y.item(NUMBER, 2);
        y.item(THENABLE, 2);
        due.is("group: just fits", y.group(ANY), 96);
        JobLoop z = with(97);
        z.item(NUMBER, 1);
        z.item(NUMBER, 2);
        z.item(THENABLE, 2);
        due.is("group: does not fit", z.group(ANY), FULL);
        due.is("group: no promises came", z.count(0), 97);
        due.is("group: items stay", z.count(7), 3);
        due.is("group: bad before full", z.group(4), BAD);
        JobLoop u = grouped(ALL, 2);
        u.resolve(2, NUMBER, 1);
        u.resolve(0, NUMBER, 1);
        u.resolve(1, NUMBER, 1);
        u.run(60);
        settled("group: key 0 was used", u, 2, FULFILLED, NUMBER, 1);
    }

    // ---- 13

    private static void run() {
        JobLoop x = with(1);
        steps(x, 0, SHOW, 0);
        x.later(0, NUMBER, 1, 4);
        x.resolve(0, NUMBER, 2);
        x.then(0, 0, -1);
        for (int wrong : new int[] {-1, 61, Integer.MIN_VALUE, Integer.MAX_VALUE}) {
            due.is("run: " + wrong, x.run(wrong), BAD);
        }
        due.is("run: 0", x.run(0), 0);
        due.is("run: no turn yet", x.count(2), 0);
        due.is("run: 1", x.run(1), 1);
        notes("run: jobs come before tasks", x, 2);
        due.is("run: no time for a job", x.count(4), 0);
        due.is("run: 60", x.run(60), 1);
        notes("run: then the task", x, 2, 1);
        due.is("run: time", x.count(4), 4);
        due.is("run: nothing left", x.run(60), 0);
        due.is("run: turns", x.count(2), 2);
        x.thenable(0, 0, THENABLE, 0, NUMBER, 0);
        x.resolve(x.promise(), THENABLE, 0);
        due.is("run: without end", x.run(60), 60);
        due.is("run: turns", x.count(2), 62);
    }

    /** The JOB to ADOPT, then ADOPTION: three TURNS from the RESOLVED one to what waits for it. */
    private static void adoption() {
        JobLoop x = with(4);
        steps(x, 0, SHOW, 0);
        x.then(0, 0, -1);
        x.resolve(1, NUMBER, 5);
        x.resolve(0, PROMISE, 1);
        due.is("adopt: a job", x.count(1), 1);
        due.is("adopt: pending", x.state(0, 0), PENDING);
        due.is("adopt: key 0", x.state(0, 5), 0);
        x.run(1);
        due.is("adopt: key 1", x.state(0, 5), 1);
        due.is("adopt: not used", x.state(0, 6), 0);
        due.is("adopt: pending still", x.state(0, 0), PENDING);
        x.run(1);
        settled("adopt: fulfilled", x, 0, FULFILLED, NUMBER, 5);
        due.is("adopt: key 1 is used", x.state(0, 6), 1);
        x.run(1);
        notes("adopt", x, 5);
        x.resolve(2, PROMISE, 3);
        x.run(1);
        due.is("adopt: a reaction", x.state(3, 4), 1);
        x.reject(3, PROMISE, 2);
        due.is("adopt: it is waited for", x.state(3, 3), 0);
        x.run(1);
        settled("adopt: rejected likewise", x, 2, REJECTED, PROMISE, 2);
        due.is("adopt: it is loose", x.state(2, 3), 1);
    }

    // ---- 14

    private static void forget() {
        JobLoop x = with(3);
        steps(x, 0, AWAIT, 0, SHOW, 0);
        x.step(1, SET, PROMISE, 0);
        steps(x, 1, SHOW, 0);
        x.thenable(0, 0, NUMBER, 1, NUMBER, 1);
        x.start(0, PROMISE, 0);
        x.start(1, NUMBER, 0);
        x.then(1, 0, 0);
        x.reject(2, NUMBER, 1);
        x.resolve(1, NUMBER, 1);
        x.later(1, NUMBER, 0, 9);
        x.run(60);
        x.later(1, NUMBER, 0, 9);
        x.then(2, 0, 0);
        x.resolve(0, THENABLE, 3);
        x.item(PROMISE, 1);
        due.is("forget", x.forget(), 7);
        for (int what = 0; what < 8; what++) {
            due.is("forget: count(" + what + ")", x.count(what), 0);
        }
        due.is("forget: noted", x.noted(0, 0), JobLoop.NONE);
        due.is("forget: again", x.forget(), 0);
        due.is("forget: no turns", x.run(60), 0);
        due.is("forget: steps stay", x.start(1, NUMBER, 0), 0);
        notes("forget: its SET found PROMISE 0, itself", x, 0);
        due.is("forget: in no turn", x.noted(0, 2), 0);
        for (int p = 1; p < 8; p++) {
            x.promise();
            due.is("forget: pending " + p, x.state(p, 0), PENDING);
            for (int what = 3; what < 8; what++) {
                due.is("forget: state(" + p + ", " + what + ")", x.state(p, what), 0);
            }
        }
        x.resolve(1, THENABLE, 0);
        x.run(60);
        due.is("forget: thenables do nothing", x.state(1, 0), PENDING);
        due.is("forget: other steps stay", x.empty(0), 2);
    }

    // ---- 15

    private static void state() {
        JobLoop x = with(4);
        steps(x, 0, AWAIT, 0);
        x.reject(1, THENABLE, 2);
        for (int what = 0; what < 8; what++) {
            int want = what == 1 || what == 2 ? BAD : 0;
            due.is("state(0, " + what + ")", x.state(0, what), want);
        }
        for (int wrong : new int[] {-1, 8, Integer.MIN_VALUE, Integer.MAX_VALUE}) {
            due.is("state: what " + wrong, x.state(0, wrong), BAD);
            due.is("state: p " + wrong, x.state(wrong, 0), BAD);
        }
        due.is("state: not made", x.state(4, 3), BAD);
        settled("state", x, 1, REJECTED, THENABLE, 2);
        due.is("state: loose", x.state(1, 3), 1);
        due.is("state: key used", x.state(1, 6), 1);
        x.then(1, -1, -1);
        due.is("state: not loose", x.state(1, 3), 0);
        x.run(60);
        due.is("state: what waited is loose", x.state(4, 3), 1);
        x.then(2, -1, -1);
        x.start(0, PROMISE, 2);
        due.is("state: reactions", x.state(2, 4), 2);
        due.is("state: stopped", x.state(6, 7), 1);
        due.is("state: not the one waited for", x.state(2, 7), 0);
        x.reject(2, NUMBER, 0);
        due.is("state: no reactions", x.state(2, 4), 0);
        due.is("state: waited for before", x.state(2, 3), 0);
        due.is("state: stopped till its turn", x.state(6, 7), 1);
        x.run(60);
        due.is("state: not stopped", x.state(6, 7), 0);
        x.resolve(3, NUMBER, -9);
        due.is("state: fulfilled is not loose", x.state(3, 3), 0);
        due.is("state: number", x.state(3, 2), -9);
    }

    // ---- 16

    private static void noted() {
        JobLoop x = with(1);
        steps(x, 0, NOTE, -7, SHOW, 0);
        x.start(0, PROMISE, 0);
        due.is("noted: X", x.noted(0, 0), 0);
        due.is("noted: its sort", x.noted(0, 1), PROMISE);
        due.is("noted: before any turn", x.noted(0, 2), 0);
        due.is("noted: n", x.noted(1, 0), -7);
        due.is("noted: sort of n", x.noted(1, 1), NUMBER);
        due.is("noted: none before", x.noted(2, 0), JobLoop.NONE);
        for (int wrong : WRONG) {
            due.is("noted: k " + wrong, x.noted(wrong, 0), JobLoop.NONE);
            due.is("noted: what " + wrong, x.noted(0, wrong), JobLoop.NONE);
        }
        due.is("noted: what 3", x.noted(0, 3), JobLoop.NONE);
        x.later(0, NUMBER, Integer.MIN_VALUE, 0);
        x.run(1);
        due.is("noted: least", x.noted(0, 0), Integer.MIN_VALUE);
        due.is("noted: in turn 1", x.noted(0, 2), 1);
        x.start(0, NUMBER, 5);
        due.is("noted: behind turn 1", x.noted(0, 2), 1);
        steps(x, 1, SHOW, 0, LESS, 0);
        x.start(1, NUMBER, 54);
        due.is("noted: 61", x.count(5), 61);
        due.is("noted: the latest", x.noted(0, 0), 0);
        due.is("noted: the 60th", x.noted(59, 0), 0);
        due.is("noted: the 60th's sort", x.noted(59, 1), PROMISE);
        due.is("noted: the 61st is not kept", x.noted(60, 0), JobLoop.NONE);
    }

    // ---- 17

    private static void count() {
        JobLoop x = with(3);
        for (int wrong : new int[] {-1, 8, Integer.MIN_VALUE, Integer.MAX_VALUE}) {
            due.is("count: " + wrong, x.count(wrong), BAD);
        }
        steps(x, 0, NOTE, 1);
        x.reject(0, NUMBER, 1);
        x.reject(1, NUMBER, 1);
        x.then(1, -1, 0);
        x.later(0, NUMBER, 0, 8);
        x.later(0, NUMBER, 0, 9);
        x.item(NUMBER, 1);
        int[] before = {4, 1, 0, 2, 0, 0, 1, 1};
        int[] after = {4, 0, 2, 1, 8, 2, 1, 1};
        for (int what = 0; what < 8; what++) {
            due.is("count: before, " + what, x.count(what), before[what]);
        }
        x.run(2);
        for (int what = 0; what < 8; what++) {
            due.is("count: after, " + what, x.count(what), after[what]);
        }
    }

    // ---- 18

    private static void goingOnAfterChanges() {
        JobLoop x = with(4);
        steps(x, 0, NOTE, 1, AWAIT, 0, NOTE, 2);
        x.start(0, PROMISE, 0);
        x.start(0, PROMISE, 1);
        x.empty(0);
        steps(x, 0, TRY, 0, NOTE, 3, NOTE, 4, END, 0, NOTE, 5);
        x.resolve(0, NUMBER, 0);
        x.reject(1, NUMBER, 66);
        x.run(1);
        notes("changed: goes on at the number behind", x, 1, 1, 4, 5);
        x.run(1);
        notes("changed: behind the END that it has then", x, 1, 1, 4, 5, 5);
        steps(x, 1, TRY, 0, AWAIT, 0, END, 0, NOTE, 6);
        x.start(1, PROMISE, 2);
        x.empty(1);
        steps(x, 1, TRY, 0, END, 0, END, 0, NOTE, 7);
        x.reject(2, NUMBER, 67);
        x.run(60);
        settled("changed: lies in no TRY then", x, 6, REJECTED, NUMBER, 67);
        steps(x, 2, SET, 1, AWAIT, 0, NOTE, 8);
        x.start(2, NUMBER, 0);
        x.empty(2);
        steps(x, 2, NOTE, 9);
        x.run(60);
        settled("changed: fewer steps than that", x, 7, FULFILLED, NUMBER, 0);
        due.is("changed: none of them done", x.count(5), 5);
    }

    private static void stepLimit() {
        JobLoop x = with(1);
        steps(x, 0, SHOW, 0, LESS, 0, GIVE, 0);
        x.start(0, NUMBER, 99);
        settled("limit: the 201st", x, 1, REJECTED, NUMBER, -4);
        due.is("limit: 100 were noted", x.count(5), 100);
        due.is("limit: the last one was done", x.noted(0, 0), 0);
        x.start(0, NUMBER, 98);
        settled("limit: 199 are done", x, 2, FULFILLED, NUMBER, 0);
        // With 198 the 199 times LESS and the TRY are the 200 that are done; with 197 a NOTE too.
        steps(x, 1, LESS, 0, TRY, 0, NOTE, 1, END, 0, TRY, 0, NOTE, 2, END, 0, SHOW, 0);
        int notes = x.count(5);
        x.start(1, NUMBER, 198);
        settled("limit: behind the 200th each one throws", x, 3, REJECTED, NUMBER, -4);
        due.is("limit: no step was done", x.count(5), notes);
        x.start(1, NUMBER, 197);
        due.is("limit: 200 are done", x.noted(0, 0), 1);
        settled("limit: the END throws", x, 4, REJECTED, NUMBER, -4);
        stepLimitOfTurns();
        stepLimitOfCalls();
    }

    private static void stepLimitOfTurns() {
        JobLoop x = with(1);
        steps(x, 0, LESS, 0, SHOW, 0);
        x.resolve(0, NUMBER, 198);
        x.then(0, 0, -1);
        x.then(0, 0, -1);
        x.later(0, NUMBER, 198, 0);
        x.later(0, NUMBER, 199, 0);
        x.run(4);
        notes("limit: each turn has 200", x, 0, 0, 0);
    }

    private static void stepLimitOfCalls() {
        JobLoop x = new JobLoop();
        steps(x, 0, CALL, 0, GIVE, 0);
        x.start(0, NUMBER, 1);
        due.is("calls: as deep as there are promises", x.count(0), 100);
        settled("calls: the innermost throws", x, 99, REJECTED, NUMBER, -4);
        due.is("calls: the others give its promise", x.count(1), 99);
        JobLoop y = new JobLoop();
        steps(y, 0, TRY, 0, CALL, 1, END, 0, SHOW, 0);
        steps(y, 1, LESS, 0, AWAIT, 0);
        y.start(0, NUMBER, 300);
        settled("calls: the steps count together", y, 1, REJECTED, NUMBER, -4);
        settled("calls: also for the caller", y, 0, REJECTED, NUMBER, -4);
        due.is("calls: nothing noted", y.count(5), 0);
    }
}
