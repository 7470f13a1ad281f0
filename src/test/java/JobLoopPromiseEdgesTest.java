/** The sentences of the document's Terms that name a boundary case: VALUES, PROMISES, REACTIONS, THENABLES. */
public final class JobLoopPromiseEdgesTest implements Words {
    private static final int WAYS_TO_WAIT = 5;
    private static final Due due = new Due("JobLoopPromiseEdgesTest");

    public static void main(String[] args) {
        values();
        keys();
        resolving();
        rejecting();
        waiting();
        looseness();
        handlers();
        adopting();
        thenables();
        due.close();
    }

    private static Probe about(String sentence) {
        return new Probe(due, sentence);
    }

    // ---- VALUES, and how many PROMISES there may be

    private static void values() {
        anyIntIsANumber();
        onlyPromisesThatWereMade();
        onlyThenablesUpToThree();
        onlyThreeSorts();
        hundredPromises();
        hundredPromisesBySteps();
        theLastOnesWaitToo();
    }

    private static void anyIntIsANumber() {
        Probe x = about("a NUMBER (sort 0, any int)");
        x.steps(0, SHOW, 0, GIVE, 0);
        int times = 0;
        for (int n : new int[] {LEAST, -1, 100, 101, MOST}) {
            times++;
            int p = x.promise();
            x.is("resolve", x.resolve(p, NUMBER, n), true);
            x.settled(p, FULFILLED, NUMBER, n);
            int q = x.promise();
            x.is("reject", x.reject(q, NUMBER, n), true);
            x.settled(q, REJECTED, NUMBER, n);
            x.settled(x.start(0, NUMBER, n), FULFILLED, NUMBER, n);
            x.shown(NUMBER, n);
            x.is("item", x.item(NUMBER, n), times);
            x.is("later", x.later(0, NUMBER, n, 0), times);
            x.is("thenable", x.thenable(0, 0, NUMBER, n, NUMBER, n), true);
            x.is("step", x.step(1, SET, NUMBER, n), times);
        }
        x.is("TASKS", x.run(60), 5);
        x.latest(LEAST, -1, 100, 101, MOST);
        int p = x.promise();
        x.resolve(p, THENABLE, 0);
        x.run(1);
        x.settled(p, FULFILLED, NUMBER, MOST);
    }

    private static void onlyPromisesThatWereMade() {
        Probe x = about("a PROMISE (sort 1, one that was made)").with(2);
        for (int n : new int[] {-1, 2, 99, LEAST, MOST}) {
            isNoValue(x, PROMISE, n);
        }
        x.same(about("a new object").with(2).seen());
        Probe y = about("a PROMISE (sort 1, one that was made)").with(2);
        isNoValue(y, PROMISE, 2);
        y.promise();
        isValue(y, PROMISE, 2);
    }

    private static void onlyThenablesUpToThree() {
        Probe x = about("a THENABLE (sort 2, 0..3)").with(2);
        for (int n : new int[] {-1, 4, LEAST, MOST}) {
            isNoValue(x, THENABLE, n);
        }
        x.same(about("a new object").with(2).seen());
        isValue(x, THENABLE, 3);
        Probe y = about("a THENABLE (sort 2, 0..3)").with(2);
        isValue(y, THENABLE, 0);
    }

    private static void onlyThreeSorts() {
        Probe x = about("sort 0, sort 1, sort 2").with(2);
        for (int sort : new int[] {-1, 3, LEAST, MOST}) {
            isNoValue(x, sort, 0);
        }
        x.same(about("a new object").with(2).seen());
    }

    private static void isNoValue(Probe x, int sort, int n) {
        String value = "(" + sort + ", " + n + ")";
        x.is("resolve " + value, x.resolve(0, sort, n), false);
        x.is("reject " + value, x.reject(0, sort, n), false);
        x.is("thenable u " + value, x.thenable(0, 0, sort, n, NUMBER, 0), false);
        x.is("thenable w " + value, x.thenable(0, 0, NUMBER, 0, sort, n), false);
        x.is("start " + value, x.start(0, sort, n), BAD);
        x.is("later " + value, x.later(0, sort, n, 0), BAD);
        x.is("item " + value, x.item(sort, n), BAD);
    }

    private static void isValue(Probe x, int sort, int n) {
        x.is("resolve", x.resolve(0, sort, n), true);
        x.is("reject", x.reject(1, sort, n), true);
        x.settled(1, REJECTED, sort, n);
        x.is("thenable u", x.thenable(1, 0, sort, n, NUMBER, 0), true);
        x.is("thenable w", x.thenable(1, 0, NUMBER, 0, sort, n), true);
        x.is("start", x.start(0, sort, n), x.count(0) - 1);
        x.is("later", x.later(0, sort, n, 0), 1);
        x.is("item", x.item(sort, n), 1);
    }

    private static void hundredPromises() {
        Probe x = about("PROMISES .. at most 100").with(99);
        x.is("promise: the 100th", x.promise(), 99);
        x.is("promise: the 101st", x.promise(), FULL);
        Probe y = about("PROMISES .. at most 100").with(99);
        y.is("then: the 100th", y.then(0, -1, -1), 99);
        y.is("then: the 101st", y.then(0, -1, -1), FULL);
        y.is("then: nobody waits", y.state(0, 4), 1);
        Probe z = about("PROMISES .. at most 100").with(99).steps(0, NOTE, 7);
        z.is("start: the 100th", z.start(0, NUMBER, 0), 99);
        z.is("start: the 101st", z.start(0, NUMBER, 0), FULL);
        z.notes(7);
        Probe u = about("PROMISES .. at most 100").with(99);
        u.is("group: the 100th", u.group(RACE), 99);
        u.is("group: the 101st", u.group(RACE), FULL);
        for (Probe full : new Probe[] {x, y, z, u}) {
            full.is("count(0)", full.count(0), 100);
            full.is("the last one", full.state(99, 5), 0);
            full.is("none behind it", full.state(100, 5), BAD);
        }
    }

    /** The 100th PROMISE comes by a STEP of a TASK, the 101st THROWS -4. */
    private static void hundredPromisesBySteps() {
        for (int what : new int[] {CALL, THEN}) {
            Probe x = about("-4: what would make a 101st PROMISE").with(99);
            x.steps(0, TRY, 0, what, 1, END, 0, SHOW, 0);
            x.later(0, PROMISE, 0, 0);
            x.later(0, PROMISE, 0, 0);
            x.run(1);
            x.shown(PROMISE, 99);
            x.run(1);
            x.shown(NUMBER, -4);
            x.is("count(0)", x.count(0), 100);
            x.is("REACTIONS of PROMISE 0", x.state(0, 4), what == THEN ? 1 : 0);
        }
        for (int sort : new int[] {NUMBER, THENABLE}) {
            Probe x = about("-4: what would make a 101st PROMISE").with(98);
            x.steps(0, TRY, 0, AWAIT, 0, END, 0, SHOW, 0);
            x.is("start: two come", x.start(0, sort, 3), 98);
            x.is("count(0)", x.count(0), 100);
            x.is("it is stopped", x.state(98, 7), 1);
            Probe y = about("-4: what would make a 101st PROMISE").with(99);
            y.steps(0, TRY, 0, AWAIT, 0, END, 0, SHOW, 0);
            y.is("start: only one comes", y.start(0, sort, 3), 99);
            y.shown(NUMBER, -4);
            y.is("it is not stopped", y.state(99, 7), 0);
            y.is("no JOBS", y.count(1), 0);
        }
    }

    /** PROMISE 0 is FULFILLED with another NUMBER, so that nothing is taken from it. */
    private static void theLastOnesWaitToo() {
        Probe x = about("PROMISES .. at most 100: the last ones are as the first").with(95);
        x.steps(0, SHOW, 0, GIVE, 0).steps(1, AWAIT, 0, GIVE, 0);
        x.resolve(0, NUMBER, 1);
        x.is("then", x.then(94, 0, -1), 95);
        x.is("start", x.start(1, PROMISE, 94), 96);
        for (int i = 1; i <= 5; i++) {
            x.is("item", x.item(PROMISE, 94), i);
        }
        x.is("group", x.group(ALL), 97);
        x.is("promise", x.promise(), 98);
        x.resolve(98, PROMISE, 94);
        x.is("then", x.then(98, -1, 0), 99);
        x.is("run", x.run(1), 1);
        x.is("REACTIONS", x.state(94, 4), 8);
        x.resolve(94, NUMBER, 60);
        x.is("run", x.run(60), 9);
        x.notes(60);
        for (int p : new int[] {94, 95, 96, 98, 99}) {
            x.settled(p, FULFILLED, NUMBER, 60);
        }
        x.settled(97, FULFILLED, NUMBER, 60 * 15);
        x.settled(0, FULFILLED, NUMBER, 1);
    }

    // ---- KEYS

    private static void keys() {
        keyZeroAtFirst();
        eachKeyOnce();
        reactionsComeOnce();
        theLastKeyAlone();
        stepsUseKeyZero();
        endUsesKeyZero();
    }

    private static void keyZeroAtFirst() {
        Probe x = about("at first KEY 0").with(1).steps(0, AWAIT, 0);
        x.then(0, -1, -1);
        x.start(0, PROMISE, 0);
        x.group(RACE);
        for (int p = 0; p < 4; p++) {
            x.key(p, 0, false);
        }
        x.start(1, NUMBER, 0);
        x.group(ALL);
        x.key(4, 0, true);
        x.key(5, 0, true);
        x.start(0, NUMBER, 9);
        x.key(6, 0, false);
        x.key(7, 0, true);
    }

    private static void eachKeyOnce() {
        Probe x = about("a KEY is used at most once").with(3);
        x.resolve(0, NUMBER, 1);
        x.reject(1, NUMBER, 4);
        for (int p = 0; p < 2; p++) {
            for (int sort = 0; sort < 3; sort++) {
                x.is("resolve in vain", x.resolve(p, sort, p), true);
                x.is("reject in vain", x.reject(p, sort, p), true);
            }
            x.key(p, 0, true);
        }
        x.settled(0, FULFILLED, NUMBER, 1);
        x.settled(1, REJECTED, NUMBER, 4);
        x.is("no JOBS", x.count(1), 0);
        x.resolve(2, THENABLE, 3);
        x.resolve(2, THENABLE, 3);
        x.resolve(2, PROMISE, 0);
        x.reject(2, NUMBER, 5);
        x.pending(2);
        x.is("one JOB to ADOPT", x.count(1), 1);
        x.key(2, 0, true);
    }

    private static void reactionsComeOnce() {
        Probe x = about("TO RESOLVE: nothing, if that .. is used").with(2);
        x.then(0, -1, -1);
        x.then(1, -1, -1);
        x.resolve(0, NUMBER, 1);
        x.reject(1, NUMBER, 1);
        x.is("JOBS", x.count(1), 2);
        x.resolve(0, NUMBER, 1);
        x.resolve(1, NUMBER, 1);
        x.reject(0, NUMBER, 1);
        x.reject(1, NUMBER, 1);
        x.is("JOBS", x.count(1), 2);
    }

    private static void theLastKeyAlone() {
        Probe x = about("nothing, if that is not its last KEY").with(3);
        x.resolve(0, THENABLE, 0);
        x.resolve(1, PROMISE, 2);
        x.key(0, 0, true);
        x.run(2);
        x.key(0, 1, false);
        x.key(1, 1, false);
        for (int p = 0; p < 2; p++) {
            x.is("resolve by KEY 0", x.resolve(p, NUMBER, 5), true);
            x.is("reject by KEY 0", x.reject(p, NUMBER, 6), true);
            x.is("with itself by KEY 0", x.resolve(p, PROMISE, p), true);
            x.is("with another by KEY 0", x.resolve(p, PROMISE, 2), true);
            x.pending(p);
            x.key(p, 1, false);
        }
        x.is("no JOBS", x.count(1), 0);
        x.resolve(2, NUMBER, 7);
        x.run(60);
        x.settled(1, FULFILLED, NUMBER, 7);
        x.key(1, 1, true);
        x.pending(0);
    }

    private static void stepsUseKeyZero() {
        Probe x = about("RESOLVE: PROMISE n, with X, by KEY 0").with(4);
        x.steps(0, RESOLVE, 0, REJECT, 1, RESOLVE, 2, REJECT, 2);
        x.start(0, NUMBER, 5);
        x.settled(0, FULFILLED, NUMBER, 5);
        x.settled(1, REJECTED, NUMBER, 5);
        x.settled(2, FULFILLED, NUMBER, 5);
        x.start(0, NUMBER, 6);
        x.settled(0, FULFILLED, NUMBER, 5);
        x.settled(1, REJECTED, NUMBER, 5);
        x.resolve(3, THENABLE, 0);
        x.run(1);
        x.steps(1, RESOLVE, 3, REJECT, 3, NOTE, 9);
        x.start(1, NUMBER, 7);
        x.pending(3);
        x.key(3, 1, false);
        x.notes(9);
    }

    private static void endUsesKeyZero() {
        Probe x = about("at its end r is RESOLVED .. by KEY 0").with(1);
        x.steps(0, AWAIT, 0, GIVE, 0);
        x.start(0, PROMISE, 0);
        x.start(0, PROMISE, 0);
        x.start(0, PROMISE, 0);
        x.reject(1, NUMBER, 8);
        x.resolve(2, THENABLE, 0);
        x.resolve(0, NUMBER, 5);
        x.is("JOBS", x.run(60), 4);
        x.settled(1, REJECTED, NUMBER, 8);
        x.pending(2);
        x.key(2, 1, false);
        x.settled(3, FULFILLED, NUMBER, 5);
    }

    // ---- TO RESOLVE, TO REJECT

    private static void resolving() {
        resolvedWithItselfFromOutside();
        resolvedWithItselfBySteps();
        resolvedWithItselfByAThenable();
        sameNumberIsNotItself();
        resolvedWithAnother();
    }

    private static void resolvedWithItselfFromOutside() {
        Probe x = about("if the VALUE is that PROMISE itself, it is REJECTED with the NUMBER -1").with(2);
        x.steps(0, SHOW, 0);
        x.then(1, 0, -1);
        x.then(1, -1, 0);
        x.resolve(1, PROMISE, 1);
        x.settled(1, REJECTED, NUMBER, -1);
        x.key(1, 0, true);
        x.is("its REACTIONS are JOBS", x.count(1), 2);
        x.run(60);
        x.notes(-1);
        x.settled(2, REJECTED, NUMBER, -1);
        x.resolve(0, PROMISE, 0);
        x.settled(0, REJECTED, NUMBER, -1);
        x.is("it is LOOSE", x.state(0, 3), 1);
        x.is("no JOB to ADOPT", x.count(1), 0);
    }

    private static void resolvedWithItselfBySteps() {
        Probe x = about("if the VALUE is that PROMISE itself: by STEPS").with(1);
        x.sets(0, PROMISE, 0).steps(0, RESOLVE, 0);
        x.start(0, NUMBER, 0);
        x.settled(0, REJECTED, NUMBER, -1);
        x.sets(1, PROMISE, 2).steps(1, GIVE, 0);
        x.is("start", x.start(1, NUMBER, 0), 2);
        x.settled(2, REJECTED, NUMBER, -1);
        x.sets(2, PROMISE, 3).steps(2, GIVE, 0);
        x.is("then", x.then(0, -1, 2), 3);
        x.run(60);
        x.settled(3, REJECTED, NUMBER, -1);
        x.sets(3, PROMISE, 4).steps(3, THROW, 0);
        x.is("start", x.start(3, NUMBER, 0), 4);
        x.settled(4, REJECTED, PROMISE, 4);
    }

    private static void resolvedWithItselfByAThenable() {
        for (int kind : new int[] {0, 2}) {
            Probe x = about("if the VALUE is that PROMISE itself: by KEY 1").with(1);
            x.thenable(1, kind, PROMISE, 0, NUMBER, 9);
            x.resolve(0, THENABLE, 1);
            x.is("JOBS", x.run(60), 1);
            x.settled(0, REJECTED, NUMBER, -1);
            x.key(0, 1, true);
        }
    }

    private static void sameNumberIsNotItself() {
        Probe x = about("if it is a NUMBER, the PROMISE is FULFILLED with it").with(3);
        x.resolve(1, NUMBER, 1);
        x.settled(1, FULFILLED, NUMBER, 1);
        x.resolve(0, NUMBER, -1);
        x.settled(0, FULFILLED, NUMBER, -1);
        x.resolve(2, THENABLE, 2);
        x.pending(2);
        x.is("THENABLE 2 comes as a JOB", x.count(1), 1);
    }

    private static void resolvedWithAnother() {
        Probe x = about("if it is another one, or a THENABLE, a JOB comes, to ADOPT it").with(6);
        x.resolve(1, NUMBER, 4);
        x.reject(2, NUMBER, 5);
        x.resolve(0, PROMISE, 1);
        x.resolve(3, PROMISE, 2);
        x.resolve(4, PROMISE, 5);
        x.is("JOBS", x.count(1), 3);
        x.is("not WAITED for yet", x.state(2, 3), 1);
        for (int p : new int[] {0, 3, 4}) {
            x.pending(p);
            x.key(p, 0, true);
        }
        x.is("three to ADOPT, two ADOPTIONS", x.run(60), 5);
        x.settled(0, FULFILLED, NUMBER, 4);
        x.settled(3, REJECTED, NUMBER, 5);
        x.pending(4);
    }

    private static void rejecting() {
        Probe x = about("TO REJECT it with a VALUE").with(5);
        x.reject(0, PROMISE, 0);
        x.settled(0, REJECTED, PROMISE, 0);
        x.reject(1, PROMISE, 4);
        x.settled(1, REJECTED, PROMISE, 4);
        x.reject(2, THENABLE, 0);
        x.settled(2, REJECTED, THENABLE, 0);
        x.reject(3, NUMBER, LEAST);
        x.settled(3, REJECTED, NUMBER, LEAST);
        x.is("none is ADOPTED", x.count(1), 0);
        x.is("nor WAITED for", x.state(4, 4), 0);
        for (int p = 0; p < 4; p++) {
            x.key(p, 0, true);
        }
        x.is("all are LOOSE", x.count(6), 4);
    }

    // ---- TO WAIT for, JOBS

    private static void waiting() {
        lastOfTheReactions();
        aJobAtOnce();
        behindAllOthers();
    }

    private static void lastOfTheReactions() {
        Probe x = about("while it is PENDING, this is the last of its REACTIONS").with(2);
        x.steps(0, NOTE, 1).steps(1, AWAIT, 0, NOTE, 2).steps(2, NOTE, 3).steps(3, NOTE, 4);
        x.then(0, 0, -1);
        x.is("REACTIONS", x.state(0, 4), 1);
        x.start(1, PROMISE, 0);
        x.is("REACTIONS", x.state(0, 4), 2);
        x.item(PROMISE, 0);
        x.item(PROMISE, 0);
        x.group(RACE);
        x.is("REACTIONS", x.state(0, 4), 4);
        x.resolve(1, PROMISE, 0);
        x.run(1);
        x.is("REACTIONS", x.state(0, 4), 5);
        x.then(0, 2, 3);
        x.is("REACTIONS", x.state(0, 4), 6);
        x.is("no JOBS", x.count(1), 0);
        x.resolve(0, NUMBER, 50);
        x.is("its REACTIONS become JOBS", x.count(1), 6);
        x.is("none is left", x.state(0, 4), 0);
        int[] notes = {1, 2, 2, 2, 2, 3};
        int[] group = {PENDING, PENDING, FULFILLED, FULFILLED, FULFILLED, FULFILLED};
        int[] adopting = {PENDING, PENDING, PENDING, PENDING, FULFILLED, FULFILLED};
        for (int turn = 0; turn < 6; turn++) {
            x.run(1);
            x.is("TURN " + turn, x.noted(0, 0), notes[turn]);
            x.is("GROUP in TURN " + turn, x.state(4, 0), group[turn]);
            x.is("ADOPTION in TURN " + turn, x.state(1, 0), adopting[turn]);
        }
        x.is("JOBS", x.count(1), 0);
    }

    private static void aJobAtOnce() {
        for (int how = 1; how < 3; how++) {
            for (int way = 0; way < WAYS_TO_WAIT; way++) {
                Probe x = about("else it becomes a JOB at once, way " + way).with(2);
                settle(x, 0, how);
                waitFor(x, way);
                x.is("one JOB", x.count(1), 1);
                x.is("no REACTIONS", x.state(0, 4), 0);
            }
        }
    }

    private static void behindAllOthers() {
        Probe x = about("JOBS come behind all others; the first one is the next").with(3);
        x.steps(0, SHOW, 0).steps(1, SHOW, 0).sets(1, NUMBER, 60).steps(1, RESOLVE, 2);
        x.then(2, 0, -1);
        x.resolve(0, NUMBER, 10);
        x.resolve(1, NUMBER, 20);
        x.then(1, 0, -1);
        x.then(0, 1, -1);
        x.then(0, 0, -1);
        x.then(1, 0, -1);
        int[] jobs = {3, 3, 2, 1, 0};
        int[] notes = {20, 10, 10, 20, 60};
        for (int i = 0; i < jobs.length; i++) {
            x.is("run", x.run(1), 1);
            x.is("JOBS", x.count(1), jobs[i]);
            x.is("note", x.noted(0, 0), notes[i]);
        }
        x.is("run", x.run(1), 0);
    }

    private static void settle(Probe x, int p, int how) {
        x.is("settled", how == FULFILLED ? x.resolve(p, NUMBER, 1) : x.reject(p, NUMBER, 1), true);
    }

    /** PROMISE 0 is WAITED for; PROMISE 1 must be PENDING. FUNCTIONS 8 and 9 get STEPS. */
    private static void waitFor(Probe x, int way) {
        switch (way) {
            case 0:
                x.then(0, -1, -1);
                break;
            case 1:
                x.steps(8, AWAIT, 0).start(8, PROMISE, 0);
                break;
            case 2:
                x.steps(9, THEN, 0).start(9, PROMISE, 0);
                break;
            case 3:
                x.resolve(1, PROMISE, 0);
                x.run(1);
                break;
            default:
                x.item(PROMISE, 0);
                x.group(RACE);
                break;
        }
    }

    // ---- LOOSE

    private static void looseness() {
        for (int way = 0; way < WAYS_TO_WAIT; way++) {
            Probe x = about("LOOSE as long as nobody has waited for it (before that), way " + way).with(2);
            waitFor(x, way);
            x.is("PENDING is not LOOSE", x.state(0, 3), 0);
            x.reject(0, NUMBER, 5);
            x.is("state(0, 3)", x.state(0, 3), 0);
            x.is("count(6)", x.count(6), 0);
            Probe y = about("LOOSE as long as nobody has waited for it (.. behind it), way " + way).with(2);
            y.reject(0, NUMBER, 5);
            y.is("state(0, 3)", y.state(0, 3), 1);
            y.is("count(6)", y.count(6), 1);
            waitFor(y, way);
            y.is("state(0, 3)", y.state(0, 3), 0);
            y.is("count(6)", y.count(6), 0);
            y.run(60);
            y.is("state(0, 3)", y.state(0, 3), 0);
        }
        onlyRejectedIsLoose();
        toAdoptIsNotYetToWait();
    }

    private static void onlyRejectedIsLoose() {
        Probe x = about("One that is REJECTED is LOOSE").with(3);
        x.resolve(1, NUMBER, 1);
        x.is("a PENDING one", x.state(0, 3), 0);
        x.is("a FULFILLED one", x.state(1, 3), 0);
        x.is("count(6)", x.count(6), 0);
        x.reject(2, NUMBER, 1);
        x.is("a REJECTED one", x.state(2, 3), 1);
        x.then(2, -1, -1);
        x.run(1);
        x.is("it was WAITED for", x.state(2, 3), 0);
        x.is("but not what waited for it", x.state(3, 3), 1);
        x.reject(0, PROMISE, 1);
        x.is("count(6)", x.count(6), 2);
    }

    private static void toAdoptIsNotYetToWait() {
        Probe x = about("TO ADOPT (a JOB): .. A PROMISE is WAITED for").with(2);
        x.reject(0, NUMBER, 5);
        x.resolve(1, PROMISE, 0);
        x.is("LOOSE till the JOB is done", x.state(0, 3), 1);
        x.run(1);
        x.is("then not", x.state(0, 3), 0);
        x.run(1);
        x.is("the one that ADOPTED is it then", x.state(1, 3), 1);
        x.is("count(6)", x.count(6), 1);
    }

    // ---- HANDLERS

    private static void handlers() {
        eachHandlerForItsOutcome();
        noHandler();
        whatTheFunctionGivesOrThrows();
        handlersByKeyZero();
    }

    private static void eachHandlerForItsOutcome() {
        Probe x = about("f if it was FULFILLED, else g").with(2);
        x.steps(0, NOTE, 1, SHOW, 0, GIVE, 0).steps(9, NOTE, 2, SHOW, 0, GIVE, 0);
        x.then(0, 0, 9);
        x.then(1, 0, 9);
        x.resolve(0, NUMBER, 30);
        x.reject(1, NUMBER, 40);
        x.run(60);
        x.notes(1, 30, 2, 40);
        x.settled(2, FULFILLED, NUMBER, 30);
        x.settled(3, FULFILLED, NUMBER, 40);
    }

    private static void noHandler() {
        Probe x = about("If that is none, d is RESOLVED, or REJECTED, with the VALUE, as it was settled").with(3);
        x.steps(0, NOTE, 1);
        x.then(0, -1, 0);
        x.then(1, 0, -1);
        x.then(2, 0, -1);
        x.then(0, -1, -1);
        x.then(1, -1, -1);
        x.resolve(0, NUMBER, MOST);
        x.reject(1, PROMISE, 2);
        x.reject(2, THENABLE, 1);
        x.is("JOBS", x.run(60), 5);
        x.settled(3, FULFILLED, NUMBER, MOST);
        x.settled(4, REJECTED, PROMISE, 2);
        x.settled(5, REJECTED, THENABLE, 1);
        x.settled(6, FULFILLED, NUMBER, MOST);
        x.settled(7, REJECTED, PROMISE, 2);
        x.notes();
    }

    private static void whatTheFunctionGivesOrThrows() {
        Probe x = about("d is RESOLVED with what it GIVES, or REJECTED with what it THROWS").with(3);
        x.sets(0, PROMISE, 2).steps(0, GIVE, 0);
        x.sets(1, PROMISE, 2).steps(1, THROW, 0);
        x.then(0, 0, -1);
        x.then(0, 1, -1);
        x.then(1, -1, 0);
        x.then(1, -1, 1);
        x.then(1, -1, 5);
        x.resolve(0, NUMBER, 1);
        x.reject(1, NUMBER, 1);
        x.run(5);
        for (int d : new int[] {3, 5}) {
            x.pending(d);
            x.key(d, 0, true);
        }
        x.settled(4, REJECTED, PROMISE, 2);
        x.settled(6, REJECTED, PROMISE, 2);
        x.settled(7, FULFILLED, NUMBER, 0);
        x.is("two to ADOPT", x.count(1), 2);
        x.run(2);
        x.resolve(2, NUMBER, 44);
        x.run(60);
        x.settled(3, FULFILLED, NUMBER, 44);
        x.settled(5, FULFILLED, NUMBER, 44);
    }

    private static void handlersByKeyZero() {
        Probe x = about("HANDLERS .. By KEY 0").with(1);
        x.steps(0, NOTE, 1, GIVE, 0);
        x.then(0, 0, -1);
        x.then(0, -1, -1);
        x.then(0, 0, -1);
        x.resolve(1, NUMBER, 11);
        x.reject(2, NUMBER, 12);
        x.resolve(3, THENABLE, 0);
        x.run(1);
        x.resolve(0, NUMBER, 13);
        x.is("JOBS", x.run(60), 3);
        x.settled(1, FULFILLED, NUMBER, 11);
        x.settled(2, REJECTED, NUMBER, 12);
        x.pending(3);
        x.key(3, 1, false);
        x.notes(1, 1);
    }

    // ---- TO ADOPT

    private static void adopting() {
        aFurtherKey();
        adoptionByThatKey();
        adoptEachOther();
        adoptInAChain();
    }

    private static void aFurtherKey() {
        Probe x = about("p has a further KEY k").with(2);
        x.resolve(0, PROMISE, 1);
        x.key(0, 0, true);
        x.run(1);
        x.key(0, 1, false);
        x.is("WAITED for with ADOPTION", x.state(1, 4), 1);
        x.resolve(1, THENABLE, 0);
        x.run(1);
        x.key(1, 1, false);
        x.key(0, 1, false);
    }

    private static void adoptionByThatKey() {
        Probe x = about("ADOPTION: p is RESOLVED, or REJECTED, with the VALUE, by the KEY").with(4);
        x.steps(0, SHOW, 0);
        x.resolve(0, PROMISE, 2);
        x.resolve(1, PROMISE, 3);
        x.then(0, 0, -1);
        x.then(1, -1, 0);
        x.run(2);
        x.resolve(2, NUMBER, LEAST);
        x.reject(3, PROMISE, 1);
        x.run(2);
        x.settled(0, FULFILLED, NUMBER, LEAST);
        x.settled(1, REJECTED, PROMISE, 1);
        x.key(0, 1, true);
        x.key(1, 1, true);
        x.is("their REACTIONS", x.count(1), 2);
        x.run(2);
        x.notes(LEAST, 1);
        x.is("not LOOSE", x.count(6), 0);
    }

    private static void adoptEachOther() {
        Probe x = about("another one: two that ADOPT each other stay PENDING").with(2);
        x.resolve(0, PROMISE, 1);
        x.resolve(1, PROMISE, 0);
        x.is("JOBS", x.run(60), 2);
        for (int p = 0; p < 2; p++) {
            x.pending(p);
            x.key(p, 1, false);
            x.is("REACTIONS", x.state(p, 4), 1);
        }
    }

    private static void adoptInAChain() {
        Probe x = about("two JOBS from one PROMISE to the next").with(4);
        for (int p = 0; p < 3; p++) {
            x.resolve(p, PROMISE, p + 1);
        }
        x.run(3);
        x.reject(3, THENABLE, 2);
        for (int p = 2; p >= 0; p--) {
            x.pending(p);
            x.is("JOBS", x.count(1), 1);
            x.run(1);
            x.settled(p, REJECTED, THENABLE, 2);
        }
        x.is("the first one is LOOSE", x.count(6), 1);
    }

    // ---- THENABLES

    private static void thenables() {
        kindZero();
        kindOne();
        kindTwo();
        kindThree();
        keysUpAndUp();
    }

    private static Probe adopted(String sentence, int kind, int sort, int n) {
        Probe x = about(sentence).with(2);
        x.is("thenable", x.thenable(3, kind, sort, n, NUMBER, 77), true);
        x.resolve(0, THENABLE, 3);
        x.is("run", x.run(1), 1);
        x.is("last KEY", x.state(0, 5), 1);
        return x;
    }

    private static void kindZero() {
        Probe x = adopted("0: p is RESOLVED with u by k", 0, NUMBER, LEAST);
        x.settled(0, FULFILLED, NUMBER, LEAST);
        x.key(0, 1, true);
        Probe y = adopted("0: p is RESOLVED with u by k", 0, PROMISE, 1);
        y.pending(0);
        y.key(0, 1, true);
        y.is("a JOB to ADOPT u", y.count(1), 1);
        y.run(1);
        y.key(0, 2, false);
        y.resolve(1, NUMBER, 6);
        y.run(1);
        y.settled(0, FULFILLED, NUMBER, 6);
        y.key(0, 2, true);
        Probe z = adopted("0: p is RESOLVED with u by k", 0, THENABLE, 2);
        z.is("a JOB to ADOPT u", z.run(60), 1);
        z.pending(0);
        z.key(0, 2, false);
    }

    private static void kindOne() {
        for (int sort = 0; sort < 3; sort++) {
            Probe x = adopted("1: p is REJECTED with u by k", 1, sort, 0);
            x.settled(0, REJECTED, sort, 0);
            x.key(0, 1, true);
            x.is("no JOBS", x.count(1), 0);
        }
    }

    private static void kindTwo() {
        Probe x = adopted("2: as 0, then p is REJECTED with w by k (in vain)", 2, NUMBER, 5);
        x.settled(0, FULFILLED, NUMBER, 5);
        Probe y = adopted("2: as 0, then p is REJECTED with w by k (in vain)", 2, PROMISE, 1);
        y.pending(0);
        y.key(0, 1, true);
        y.reject(1, NUMBER, 6);
        y.run(60);
        y.settled(0, REJECTED, NUMBER, 6);
        Probe z = adopted("2: as 0, then p is REJECTED with w by k (in vain)", 2, THENABLE, 0);
        z.run(60);
        z.pending(0);
        z.key(0, 2, false);
    }

    private static void kindThree() {
        Probe x = adopted("3: nothing", 3, NUMBER, 5);
        x.pending(0);
        x.key(0, 1, false);
        x.is("no JOBS", x.run(60), 0);
        x.resolve(0, NUMBER, 1);
        x.reject(0, NUMBER, 1);
        x.pending(0);
    }

    private static void keysUpAndUp() {
        Probe x = about("p has a further KEY k, again and again").with(1);
        x.thenable(0, 0, THENABLE, 1, NUMBER, 0);
        x.thenable(1, 2, THENABLE, 0, NUMBER, 0);
        x.resolve(0, THENABLE, 0);
        for (int i = 1; i <= 6; i++) {
            x.is("run", x.run(60), 60);
            x.key(0, 60 * i, true);
            x.is("JOBS", x.count(1), 1);
        }
        x.thenable(0, 1, THENABLE, 1, NUMBER, 0);
        x.is("run", x.run(60), 1);
        x.settled(0, REJECTED, THENABLE, 1);
        x.key(0, 361, true);
    }
}
