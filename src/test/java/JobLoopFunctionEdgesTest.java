/** The sentences of the document's Terms that name a boundary case: FUNCTIONS, GROUPS, TURNS. */
public final class JobLoopFunctionEdgesTest implements Words {
    private static final Due due = new Due("JobLoopFunctionEdgesTest");

    public static void main(String[] args) {
        functions();
        tries();
        eachStep();
        jumps();
        throwing();
        awaiting();
        starting();
        groups();
        turns();
        due.close();
    }

    private static Probe about(String sentence) {
        return new Probe(due, sentence);
    }

    // ---- FUNCTIONS and their STEPS

    private static void functions() {
        tenFunctions();
        upToTenSteps();
        behindTheLastStep();
        atFirstX();
    }

    private static void tenFunctions() {
        Probe x = about("FUNCTIONS 0..9").with(1);
        for (int f = 0; f < 10; f++) {
            x.steps(f, NOTE, 10 + f);
        }
        for (int f = 0; f < 10; f++) {
            x.start(f, NUMBER, 0);
            x.latest(10 + f);
        }
        for (int f : new int[] {-1, 10, LEAST, MOST}) {
            x.is("step " + f, x.step(f, NOTE, 0, 1), BAD);
            x.is("empty " + f, x.empty(f), BAD);
            x.is("start " + f, x.start(f, NUMBER, 0), BAD);
            x.is("later " + f, x.later(f, NUMBER, 0, 0), BAD);
            if (f != -1) {
                x.is("then f " + f, x.then(0, f, -1), BAD);
                x.is("then g " + f, x.then(0, -1, f), BAD);
            }
        }
        x.is("PROMISES", x.count(0), 11);
        x.is("TASKS", x.count(3), 0);
    }

    private static void upToTenSteps() {
        Probe x = about("up to 10 STEPS");
        for (int i = 0; i < 9; i++) {
            x.steps(0, NOTE, i);
        }
        x.is("the 10th", x.step(0, GIVE, 0, 0), 10);
        x.is("the 11th", x.step(0, NOTE, 0, 10), FULL);
        x.steps(1, NOTE, 20);
        x.start(0, NUMBER, 33);
        x.notes(0, 1, 2, 3, 4, 5, 6, 7, 8);
        x.settled(0, FULFILLED, NUMBER, 33);
    }

    private static void behindTheLastStep() {
        Probe x = about("Behind the last STEP it GIVES the NUMBER 0");
        x.settled(x.start(0, NUMBER, 5), FULFILLED, NUMBER, 0);
        x.steps(1, SHOW, 0);
        x.settled(x.start(1, THENABLE, 1), FULFILLED, NUMBER, 0);
        for (int i = 0; i < 10; i++) {
            x.steps(2, NOTE, i);
        }
        x.settled(x.start(2, NUMBER, 5), FULFILLED, NUMBER, 0);
        x.steps(3, TRY, 0, THROW, 0, END, 0);
        x.settled(x.start(3, NUMBER, 5), FULFILLED, NUMBER, 0);
        x.is("no JOBS", x.count(1), 0);
        int d = x.then(0, 1, -1);
        x.run(1);
        x.settled(d, FULFILLED, NUMBER, 0);
    }

    private static void atFirstX() {
        Probe x = about("X .. at first what the FUNCTION is DONE or STARTED with").with(1);
        x.steps(0, SHOW, 0, CALL, 1, SHOW, 0).steps(1, SHOW, 0);
        x.reject(0, THENABLE, 3);
        x.then(0, -1, 0);
        x.run(1);
        x.notes(3, 3, 2);
        x.shown(PROMISE, 2);
        x.is("sort of what is CALLED", x.noted(1, 1), THENABLE);
        x.later(1, PROMISE, 1, 0);
        x.run(1);
        x.shown(PROMISE, 1);
        x.start(1, NUMBER, LEAST);
        x.shown(NUMBER, LEAST);
    }

    // ---- TRY and END

    private static void tries() {
        endBelongsToTheLatestTry();
        tryWithoutEnd();
        endWithoutTry();
        betweenTheTwoAlone();
        alsoWhenJumpedInto();
        throwInAThrow();
        tryAndEndThemselves();
    }

    /** FUNCTION 0 of a new object has the STEPS and is STARTED with the NUMBER 70. */
    private static Probe started(String sentence, int... whatAndN) {
        Probe x = about(sentence).steps(0, whatAndN);
        x.start(0, NUMBER, 70);
        return x;
    }

    private static void endBelongsToTheLatestTry() {
        String sentence = "An END belongs to the latest TRY before it to which none does yet";
        Probe x = started(sentence, TRY, 0, TRY, 0, END, 0, THROW, 0, NOTE, 1, END, 0, NOTE, 2);
        x.notes(2);
        x = started(sentence, TRY, 0, TRY, 0, END, 0, END, 0, THROW, 0, END, 0, NOTE, 2);
        x.settled(0, REJECTED, NUMBER, 70);
        x = started(sentence, TRY, 0, TRY, 0, THROW, 0, NOTE, 1, END, 0, NOTE, 2, END, 0, NOTE, 3);
        x.notes(2, 3);
        x = started(sentence, TRY, 0, TRY, 0, TRY, 0, THROW, 0, END, 0, THROW, 0, END, 0, THROW, 0, END, 0, SHOW, 0);
        x.notes(70);
        x = started(sentence, TRY, 0, THROW, 0, TRY, 0, END, 0, NOTE, 1, END, 0, NOTE, 2);
        x.notes(2);
    }

    private static void tryWithoutEnd() {
        Probe x = started("TRY to which no END belongs", TRY, 0, THROW, 0, NOTE, 1);
        x.settled(0, REJECTED, NUMBER, 70);
        x.notes();
        x = started("TRY to which no END belongs", TRY, 0, THROW, 0, TRY, 0, END, 0, NOTE, 1);
        x.settled(0, REJECTED, NUMBER, 70);
        x = started("TRY to which no END belongs", TRY, 0, NOTE, 1);
        x.settled(0, FULFILLED, NUMBER, 0);
        x.notes(1);
    }

    private static void endWithoutTry() {
        Probe x = started("END that belongs to no TRY", THROW, 0, END, 0, NOTE, 1);
        x.settled(0, REJECTED, NUMBER, 70);
        x = started("END that belongs to no TRY", END, 0, NOTE, 1, END, 0, TRY, 0, THROW, 0, END, 0, SHOW, 0);
        x.notes(1, 70);
        x = started("END that belongs to no TRY", TRY, 0, END, 0, THROW, 0, END, 0, NOTE, 1);
        x.settled(0, REJECTED, NUMBER, 70);
    }

    private static void betweenTheTwoAlone() {
        Probe x = started("the STEPS between these two lie in that TRY", THROW, 0, TRY, 0, END, 0, NOTE, 1);
        x.settled(0, REJECTED, NUMBER, 70);
        x = started("the STEPS between these two lie in that TRY", TRY, 0, END, 0, THROW, 0, NOTE, 1);
        x.settled(0, REJECTED, NUMBER, 70);
        x = started("the STEPS between these two lie in that TRY", TRY, 0, NOTE, 1, NOTE, 2, END, 0, SHOW, 0);
        x.notes(1, 2, 70);
        x = started("the first of ten lies in it", TRY, 0, THROW, 0, NOTE, 1, NOTE, 1, NOTE, 1, NOTE, 1,
            NOTE, 1, NOTE, 1, NOTE, 1, END, 0);
        x.settled(0, FULFILLED, NUMBER, 0);
        x.notes();
    }

    private static void alsoWhenJumpedInto() {
        Probe x = about("TRY in which it lies, though it was not done");
        x.steps(0, IF, 2, TRY, 0, THROW, 0, NOTE, 1, END, 0, SHOW, 0);
        x.start(0, NUMBER, 0);
        x.notes(0);
        x.steps(1, TRY, 0, LESS, 4, END, 0, NOTE, 1, THROW, 0);
        x.start(1, NUMBER, 1);
        x.settled(1, REJECTED, NUMBER, 0);
        x.notes(0);
    }

    private static void throwInAThrow() {
        Probe x = about("Where a STEP THROWS, X is that");
        x.steps(0, TRY, 0, SET, 5, THROW, 0, END, 0, SHOW, 0, SET, 6, THROW, 0);
        x.settled(x.start(0, NUMBER, 70), REJECTED, NUMBER, 6);
        x.notes(5);
        x.steps(1, TRY, 0, CALL, 2, SHOW, 0, END, 0).steps(2, SET, 8, THROW, 0);
        x.settled(x.start(1, NUMBER, 70), FULFILLED, NUMBER, 0);
        x.notes(5, 2);
        x.settled(2, REJECTED, NUMBER, 8);
        x.steps(3, TRY, 0, THEN, 0, END, 0, SHOW, 0, THROW, 0);
        x.settled(x.start(3, THENABLE, 2), REJECTED, NUMBER, -3);
        x.shown(NUMBER, -3);
    }

    /** The 201st STEP is the TRY or the END itself, so that it THROWS. */
    private static void tryAndEndThemselves() {
        Probe x = about("between these two: a TRY does not lie in itself");
        x.steps(0, LESS, 0, NOTE, 1, TRY, 0, END, 0);
        x.settled(x.start(0, NUMBER, 198), REJECTED, NUMBER, -4);
        x.notes(1);
        Probe y = about("between these two: an END does not lie in its TRY");
        y.steps(0, LESS, 0, TRY, 0, END, 0);
        y.settled(y.start(0, NUMBER, 198), REJECTED, NUMBER, -4);
        Probe z = about("between these two: an END lies in the TRY around it");
        z.steps(0, LESS, 0, TRY, 0, TRY, 0, END, 0, NOTE, 1, END, 0);
        z.settled(z.start(0, NUMBER, 197), FULFILLED, NUMBER, 0);
        z.notes();
        Probe u = about("between these two: a TRY lies in the TRY around it");
        u.steps(0, LESS, 0, TRY, 0, TRY, 0, NOTE, 1, END, 0, NOTE, 2, END, 0);
        u.settled(u.start(0, NUMBER, 198), FULFILLED, NUMBER, 0);
        u.notes();
    }

    // ---- what each STEP does

    private static void eachStep() {
        notesAndValues();
        endsOfAFunction();
        callsAndSettling();
        thenAndLater();
    }

    private static void notesAndValues() {
        Probe x = about("NOTE: n; SHOW: X; SET: X is the VALUE").with(100);
        x.is("NOTE", x.step(0, NOTE, 2, MOST), 1);
        x.steps(0, SHOW, 0).sets(0, PROMISE, 99).steps(0, SHOW, 0);
        x.sets(0, THENABLE, 3).steps(0, SHOW, 0).sets(0, NUMBER, LEAST).steps(0, SHOW, 0);
        x.later(0, THENABLE, 1, 0);
        x.run(1);
        x.notes(MOST, 1, 99, 3, LEAST);
        int[] sorts = {NUMBER, THENABLE, PROMISE, THENABLE, NUMBER};
        for (int i = 0; i < sorts.length; i++) {
            x.is("sort", x.noted(4 - i, 1), sorts[i]);
        }
    }

    private static void endsOfAFunction() {
        Probe x = about("GIVE: it GIVES X; THROW: THROWS X").with(1);
        x.steps(0, GIVE, 0, NOTE, 1).steps(1, THROW, 0, NOTE, 1);
        x.steps(2, TRY, 0, GIVE, 0, END, 0, NOTE, 1);
        x.settled(x.start(0, NUMBER, 7), FULFILLED, NUMBER, 7);
        x.settled(x.start(1, NUMBER, 7), REJECTED, NUMBER, 7);
        x.settled(x.start(1, THENABLE, 0), REJECTED, THENABLE, 0);
        x.settled(x.start(2, NUMBER, 8), FULFILLED, NUMBER, 8);
        x.notes();
        int r = x.start(0, PROMISE, 0);
        x.pending(r);
        x.is("a JOB to ADOPT", x.count(1), 1);
        x.is("it is not stopped", x.state(r, 7), 0);
    }

    private static void callsAndSettling() {
        Probe x = about("CALL: FUNCTION n is STARTED with X, X is its PROMISE");
        x.steps(0, SHOW, 0, CALL, 9, SHOW, 0, CALL, 0).steps(9, SHOW, 0, AWAIT, 0, NOTE, 5);
        x.steps(1, CALL, 9, SHOW, 0, CALL, 9, SHOW, 0);
        x.start(1, NUMBER, 3);
        x.notes(3, 1, 1, 3);
        x.is("the first is stopped", x.state(1, 7), 1);
        x.is("the second too", x.state(3, 7), 1);
        x.is("the caller is not", x.state(0, 7), 0);
        x.settled(0, FULFILLED, NUMBER, 0);
        Probe y = about("RESOLVE, REJECT: PROMISE n, with X").with(4);
        y.steps(0, RESOLVE, 0, SHOW, 0, REJECT, 1, SHOW, 0);
        y.start(0, THENABLE, 0);
        y.notes(0, 0);
        y.is("a JOB to ADOPT", y.count(1), 1);
        y.settled(1, REJECTED, THENABLE, 0);
        y.sets(1, PROMISE, 2).steps(1, RESOLVE, 3);
        y.start(1, NUMBER, 0);
        y.run(60);
        y.is("it is ADOPTED", y.state(2, 4), 1);
        y.key(3, 1, false);
    }

    private static void thenAndLater() {
        Probe x = about("THEN: HANDLERS n, none, and a new PROMISE, which X is then").with(2);
        x.steps(0, THEN, 1, SHOW, 0).steps(1, SHOW, 0, GIVE, 0);
        x.start(0, PROMISE, 0);
        x.shown(PROMISE, 3);
        x.is("REACTIONS", x.state(0, 4), 1);
        x.resolve(0, NUMBER, 12);
        x.run(60);
        x.shown(NUMBER, 12);
        x.settled(3, FULFILLED, NUMBER, 12);
        x.reject(1, NUMBER, 13);
        x.start(0, PROMISE, 1);
        x.is("a JOB at once", x.count(1), 1);
        x.run(60);
        x.settled(5, REJECTED, NUMBER, 13);
        x.shown(PROMISE, 5);
        Probe y = about("LATER: a TASK, FUNCTION n with X, is due 5 from now");
        y.steps(0, LATER, 1, LATER, 1, SHOW, 0).steps(1, SHOW, 0);
        y.later(1, NUMBER, 4, 4);
        y.later(1, NUMBER, 6, 6);
        y.start(0, NUMBER, 5);
        y.later(1, NUMBER, 7, 5);
        y.is("TASKS", y.count(3), 5);
        y.run(60);
        y.notes(5, 4, 5, 5, 7, 6);
        y.start(0, NUMBER, 8);
        y.run(1);
        y.is("TIME", y.count(4), 11);
    }

    // ---- IF and LESS

    private static void jumps() {
        ifZero();
        lessAboveZero();
        jumpsToTheEdges();
    }

    private static void ifZero() {
        Probe x = about("IF: goes on at STEP n if X is the NUMBER 0").with(1);
        x.steps(0, IF, 2, GIVE, 0, SHOW, 0, SET, 1, GIVE, 0);
        for (int n : new int[] {1, -1, LEAST, MOST}) {
            x.settled(x.start(0, NUMBER, n), FULFILLED, NUMBER, n);
        }
        x.start(0, PROMISE, 0);
        x.start(0, THENABLE, 0);
        x.notes();
        x.settled(x.start(0, NUMBER, 0), FULFILLED, NUMBER, 1);
        x.shown(NUMBER, 0);
    }

    private static void lessAboveZero() {
        Probe x = about("LESS: if X is a NUMBER above 0, it is one less, and it goes on at STEP n").with(3);
        x.steps(0, LESS, 2, GIVE, 0, SHOW, 0);
        for (int n : new int[] {0, -1, LEAST}) {
            x.settled(x.start(0, NUMBER, n), FULFILLED, NUMBER, n);
        }
        x.start(0, PROMISE, 2);
        x.start(0, THENABLE, 2);
        x.notes();
        x.start(0, NUMBER, 1);
        x.start(0, NUMBER, 2);
        x.start(0, NUMBER, MOST);
        x.notes(0, 1, MOST - 1);
    }

    private static void jumpsToTheEdges() {
        Probe x = about("goes on at STEP n: 0, 9, 10 and behind the last STEP");
        for (int i = 0; i < 8; i++) {
            x.steps(0, IF, 9);
        }
        x.steps(0, NOTE, 8, NOTE, 9);
        x.start(0, NUMBER, 0);
        x.notes(9);
        x.steps(1, LESS, 10, NOTE, 1);
        x.settled(x.start(1, NUMBER, 5), FULFILLED, NUMBER, 0);
        x.notes(9);
        x.steps(2, IF, 2, NOTE, 2);
        x.settled(x.start(2, NUMBER, 0), FULFILLED, NUMBER, 0);
        x.notes(9);
        x.steps(3, SHOW, 0, LESS, 0);
        x.start(3, NUMBER, 2);
        x.notes(9, 2, 1, 0);
        x.steps(4, SET, 0, IF, 1);
        x.settled(x.start(4, NUMBER, 9), REJECTED, NUMBER, -4);
        x.steps(5, TRY, 0, IF, 3, END, 0, THROW, 0, NOTE, 5);
        x.settled(x.start(5, NUMBER, 0), REJECTED, NUMBER, 0);
    }

    // ---- what a STEP THROWS

    private static void throwing() {
        awaitInOneThatIsDone();
        faultsBeforeRoom();
        thenWithoutAPromise();
        promisesThatWereNotMade();
        tooManyTasks();
        itDoesNothing();
    }

    private static void awaitInOneThatIsDone() {
        for (int sort = 0; sort < 3; sort++) {
            Probe x = about("-2: AWAIT in a FUNCTION that is DONE, not STARTED").with(1);
            x.steps(0, TRY, 0, AWAIT, 0, END, 0, SHOW, 0);
            x.later(0, sort, 0, 0);
            x.run(1);
            x.shown(NUMBER, -2);
            x.is("nobody waits", x.state(0, 4), 0);
            x.is("no PROMISES come", x.count(0), 1);
            x.reject(0, sort, 0);
            x.then(0, -1, 0);
            x.run(1);
            x.shown(NUMBER, -2);
            x.settled(1, FULFILLED, NUMBER, 0);
            x.steps(1, AWAIT, 0);
            int d = x.then(0, -1, 1);
            x.run(1);
            x.settled(d, REJECTED, NUMBER, -2);
            x.steps(2, CALL, 1, GIVE, 0);
            x.later(2, NUMBER, 5, 0);
            x.run(1);
            x.is("one that is CALLED is STARTED", x.state(3, 7), 1);
        }
    }

    /** Nothing would be made, so that room does not matter. */
    private static void faultsBeforeRoom() {
        Probe x = about("-2, -3: also where a 101st PROMISE would be too much").with(100);
        x.steps(0, TRY, 0, AWAIT, 0, END, 0, SHOW, 0).steps(1, TRY, 0, THEN, 0, END, 0, SHOW, 0);
        x.later(0, NUMBER, 5, 0);
        x.later(1, NUMBER, 5, 0);
        x.run(60);
        x.notes(-2, -3);
    }

    private static void thenWithoutAPromise() {
        Probe x = about("-3: THEN, if X is no PROMISE").with(1);
        x.steps(0, TRY, 0, THEN, 1, END, 0, SHOW, 0);
        x.start(0, NUMBER, 0);
        x.shown(NUMBER, -3);
        x.start(0, THENABLE, 0);
        x.shown(NUMBER, -3);
        x.is("only the started ones came", x.count(0), 3);
        x.is("nobody waits", x.state(0, 4), 0);
        x.start(0, PROMISE, 0);
        x.shown(PROMISE, 4);
    }

    private static void promisesThatWereNotMade() {
        Probe x = about("-3: SET, RESOLVE, REJECT of a PROMISE that was not made");
        x.steps(0, TRY, 0).sets(0, PROMISE, 3).steps(0, END, 0, SHOW, 0);
        x.steps(1, TRY, 0, RESOLVE, 3, END, 0, SHOW, 0);
        x.steps(2, TRY, 0, REJECT, 3, END, 0, SHOW, 0);
        for (int f = 0; f < 3; f++) {
            x.is("start", x.start(f, THENABLE, 0), f);
            x.shown(NUMBER, -3);
        }
        x.start(0, THENABLE, 0);
        x.shown(PROMISE, 3);
        x.start(0, THENABLE, 0);
        x.shown(PROMISE, 3);
        x.promise();
        Probe y = about("-3: SET of a PROMISE that was not made").with(98);
        y.sets(0, PROMISE, 99).steps(0, SHOW, 0);
        y.settled(y.start(0, NUMBER, 0), REJECTED, NUMBER, -3);
        y.promise();
        y.later(0, NUMBER, 0, 0);
        y.run(1);
        y.shown(PROMISE, 99);
        y.forget();
        y.settled(y.start(0, NUMBER, 0), REJECTED, NUMBER, -3);
    }

    private static void tooManyTasks() {
        Probe x = about("-4: a 33rd TASK that is not done");
        x.steps(0, TRY, 0, LATER, 1, END, 0, SHOW, 0);
        for (int i = 1; i <= 31; i++) {
            x.is("later", x.later(1, NUMBER, 0, 9), i);
        }
        x.start(0, NUMBER, 7);
        x.shown(NUMBER, 7);
        x.is("the 32nd", x.count(3), 32);
        x.start(0, NUMBER, 8);
        x.shown(NUMBER, -4);
        x.is("no 33rd", x.count(3), 32);
        x.run(1);
        x.start(0, NUMBER, 9);
        x.shown(NUMBER, 9);
        x.start(0, NUMBER, 10);
        x.shown(NUMBER, -4);
        x.is("no 33rd", x.count(3), 32);
    }

    private static void itDoesNothing() {
        Probe x = about("A STEP THROWS (and does nothing)").with(99);
        x.steps(0, TRY, 0, CALL, 1, END, 0, SHOW, 0).steps(1, NOTE, 5);
        x.start(0, NUMBER, 1);
        x.notes(-4);
        Probe y = about("A STEP THROWS (and does nothing)").with(1);
        y.steps(0, LESS, 0, RESOLVE, 0);
        y.settled(y.start(0, NUMBER, 199), REJECTED, NUMBER, -4);
        y.pending(0);
        y.settled(y.start(0, NUMBER, 198), FULFILLED, NUMBER, 0);
        y.settled(0, FULFILLED, NUMBER, 0);
    }

    // ---- AWAIT

    private static void awaiting() {
        awaitOfPromises();
        awaitOfOtherValues();
        awaitOfARejectedOne();
        awaitInACalledOne();
    }

    private static void awaitOfPromises() {
        Probe x = about("AWAIT: a PROMISE X is WAITED for").with(2);
        x.steps(0, AWAIT, 0, SHOW, 0, GIVE, 0);
        x.is("of a PENDING one", x.start(0, PROMISE, 0), 2);
        x.is("REACTIONS", x.state(0, 4), 1);
        x.is("no new PROMISE", x.count(0), 3);
        x.resolve(1, NUMBER, 8);
        x.is("of a FULFILLED one", x.start(0, PROMISE, 1), 3);
        x.is("a JOB at once", x.count(1), 1);
        x.is("stopped all the same", x.state(3, 7), 1);
        x.notes();
        x.run(1);
        x.notes(8);
        x.settled(3, FULFILLED, NUMBER, 8);
        x.is("no more stopped", x.state(3, 7), 0);
        x.is("the other one is", x.state(2, 7), 1);
        x.steps(1, AWAIT, 0, AWAIT, 0, AWAIT, 0, GIVE, 0);
        int r = x.start(1, PROMISE, 1);
        for (int i = 0; i < 3; i++) {
            x.is("stopped", x.state(r, 7), 1);
            x.is("run", x.run(1), 1);
        }
        x.settled(r, FULFILLED, NUMBER, 8);
    }

    private static void awaitOfOtherValues() {
        Probe x = about("for another VALUE a new PROMISE is made, RESOLVED with X by KEY 0, and WAITED for");
        x.steps(0, AWAIT, 0, SHOW, 0);
        x.is("start", x.start(0, NUMBER, LEAST), 0);
        x.is("a new one", x.count(0), 2);
        x.settled(1, FULFILLED, NUMBER, LEAST);
        x.key(1, 0, true);
        x.is("a JOB", x.run(60), 1);
        x.shown(NUMBER, LEAST);
        x.is("start", x.start(0, THENABLE, 3), 2);
        x.pending(3);
        x.is("it is WAITED for", x.state(3, 4), 1);
        x.run(60);
        x.key(3, 1, false);
        x.is("stopped for ever", x.state(2, 7), 1);
        x.thenable(2, 1, PROMISE, 0, NUMBER, 0);
        x.is("start", x.start(0, THENABLE, 2), 4);
        x.is("to ADOPT, to go on", x.run(60), 2);
        x.settled(4, REJECTED, PROMISE, 0);
        x.is("not LOOSE", x.state(5, 3), 0);
    }

    private static void awaitOfARejectedOne() {
        Probe x = about("if the PROMISE was REJECTED, its AWAIT THROWS that").with(2);
        x.steps(0, TRY, 0, AWAIT, 0, NOTE, 1, END, 0, SHOW, 0, THROW, 0).steps(1, AWAIT, 0, NOTE, 2);
        x.reject(1, THENABLE, 3);
        int r = x.start(0, PROMISE, 1);
        int s = x.start(1, PROMISE, 1);
        x.is("not LOOSE", x.state(1, 3), 0);
        x.run(1);
        x.notes(3);
        x.shown(THENABLE, 3);
        x.settled(r, REJECTED, THENABLE, 3);
        x.run(1);
        x.settled(s, REJECTED, THENABLE, 3);
        x.is("stopped no more", x.state(s, 7), 0);
        x.is("both are LOOSE", x.count(6), 2);
        x.notes(3);
    }

    private static void awaitInACalledOne() {
        Probe x = about("the FUNCTION stops, not the one that CALLED it").with(1);
        x.steps(0, CALL, 1, NOTE, 1, AWAIT, 0, NOTE, 3).steps(1, NOTE, 0, AWAIT, 0, NOTE, 2);
        x.start(0, PROMISE, 0);
        x.notes(0, 1);
        x.is("both are stopped", x.state(1, 7) + x.state(2, 7), 2);
        x.resolve(0, NUMBER, 5);
        x.run(1);
        x.notes(0, 1, 2);
        x.settled(2, FULFILLED, NUMBER, 0);
        x.pending(1);
        x.run(1);
        x.notes(0, 1, 2, 3);
        x.settled(1, FULFILLED, NUMBER, 0);
    }

    // ---- TO START

    private static void starting() {
        itsPromiseIsMadeFirst();
        itsEnd();
        deepCalls();
    }

    private static void itsPromiseIsMadeFirst() {
        Probe x = about("TO START a FUNCTION with a VALUE, a PROMISE r is made");
        x.sets(0, PROMISE, 0).steps(0, SHOW, 0, CALL, 1, SHOW, 0, AWAIT, 0).steps(1, AWAIT, 0);
        x.is("start", x.start(0, NUMBER, 0), 0);
        x.notes(0, 1);
        x.is("PROMISES", x.count(0), 2);
        x.is("both are stopped", x.state(0, 7) + x.state(1, 7), 2);
        x.is("they wait for each other", x.state(0, 4) + x.state(1, 4), 2);
        x.is("no JOBS", x.run(60), 0);
    }

    private static void itsEnd() {
        Probe x = about("at its end r is RESOLVED with what it GIVES, or REJECTED with what it THROWS").with(1);
        x.steps(0, GIVE, 0).steps(1, THROW, 0);
        x.settled(x.start(0, NUMBER, MOST), FULFILLED, NUMBER, MOST);
        x.settled(x.start(1, PROMISE, 0), REJECTED, PROMISE, 0);
        x.pending(x.start(0, THENABLE, 0));
        x.pending(x.start(0, PROMISE, 0));
        x.is("two to ADOPT", x.count(1), 2);
        x.steps(2, RESOLVE, 5, GIVE, 0);
        x.settled(x.start(2, NUMBER, 6), FULFILLED, NUMBER, 6);
        x.steps(3, REJECT, 6, SET, 9, GIVE, 0);
        x.settled(x.start(3, NUMBER, 7), REJECTED, NUMBER, 7);
    }

    private static void deepCalls() {
        Probe x = about("CALL as deep as there are PROMISES");
        x.steps(0, TRY, 0, CALL, 0, END, 0, GIVE, 0);
        x.start(0, NUMBER, 1);
        x.is("PROMISES", x.count(0), 100);
        x.settled(99, REJECTED, NUMBER, -4);
        x.settled(0, REJECTED, NUMBER, -4);
        Probe y = about("CALL as deep as there are PROMISES").with(40);
        y.steps(0, CALL, 0, THROW, 0);
        y.start(0, NUMBER, 1);
        y.settled(99, REJECTED, NUMBER, -4);
        y.settled(98, REJECTED, PROMISE, 99);
        y.settled(40, REJECTED, PROMISE, 41);
        y.is("all are LOOSE", y.count(6), 60);
    }

    // ---- GROUPS

    private static void groups() {
        withoutItems();
        itemsInOrder();
        placesAreWaitedForInOrder();
        all();
        race();
        countOfSettled();
        any();
        groupByKeyZero();
    }

    private static void withoutItems() {
        Probe x = about("Without ITEMS: ALL, SETTLED RESOLVED with 0, ANY REJECTED with -5, RACE nothing, at once");
        for (int kind = 0; kind < 4; kind++) {
            x.is("group", x.group(kind), kind);
            x.key(kind, 0, kind != RACE);
        }
        x.settled(ALL, FULFILLED, NUMBER, 0);
        x.pending(RACE);
        x.settled(SETTLED, FULFILLED, NUMBER, 0);
        x.settled(ANY, REJECTED, NUMBER, -5);
        x.is("no JOBS", x.count(1), 0);
        x.resolve(RACE, NUMBER, 3);
        x.settled(RACE, FULFILLED, NUMBER, 3);
    }

    private static void itemsInOrder() {
        Probe x = about("a PROMISE d, which is made first; then for each ITEM, in order").with(1);
        x.item(NUMBER, 10);
        x.item(PROMISE, 0);
        x.item(THENABLE, 2);
        x.item(NUMBER, 20);
        x.item(PROMISE, 0);
        x.is("group", x.group(ALL), 1);
        x.is("PROMISES", x.count(0), 5);
        x.settled(2, FULFILLED, NUMBER, 10);
        x.pending(3);
        x.key(3, 0, true);
        x.settled(4, FULFILLED, NUMBER, 20);
        x.is("PROMISE 0 is WAITED for", x.state(0, 4), 2);
        x.is("so is the THENABLE's", x.state(3, 4), 1);
        x.is("JOBS", x.count(1), 3);
        x.thenable(2, 0, NUMBER, 5, NUMBER, 0);
        x.resolve(0, NUMBER, 100);
        x.is("JOBS", x.run(60), 6);
        x.settled(1, FULFILLED, NUMBER, 10 + 2 * 100 + 3 * 5 + 4 * 20 + 5 * 100);
    }

    private static void placesAreWaitedForInOrder() {
        Probe x = about("the first PLACE .. is that of the first JOB").with(2);
        x.reject(0, NUMBER, 1);
        x.reject(1, NUMBER, 2);
        x.item(PROMISE, 1);
        x.item(PROMISE, 0);
        x.group(RACE);
        x.run(1);
        x.settled(2, REJECTED, NUMBER, 2);
        x.is("none is LOOSE but d", x.count(6), 1);
        x.item(THENABLE, 0);
        x.item(NUMBER, 3);
        x.thenable(0, 0, NUMBER, 4, NUMBER, 0);
        int d = x.group(RACE);
        x.run(60);
        x.settled(d, FULFILLED, NUMBER, 3);
    }

    /** A GROUP of so many PROMISES, numbers 0 up; its own is the next. */
    private static Probe grouped(String sentence, int kind, int many) {
        Probe x = about(sentence).with(many);
        for (int p = 0; p < many; p++) {
            x.is("item", x.item(PROMISE, p), p + 1);
        }
        x.is("group", x.group(kind), many);
        return x;
    }

    private static void all() {
        String sentence = "ALL: RESOLVED, when all were FULFILLED, with the sum .. (wraps)";
        Probe x = grouped(sentence, ALL, 5);
        for (int p = 4; p >= 0; p--) {
            x.run(60);
            x.pending(5);
            x.resolve(p, NUMBER, p == 4 ? MOST : p == 3 ? LEAST : 1000 + p);
        }
        x.run(60);
        x.settled(5, FULFILLED, NUMBER, MOST * 5 + LEAST * 4 + 1002 * 3 + 1001 * 2 + 1000);
        Probe y = grouped(sentence, ALL, 1);
        y.resolve(0, NUMBER, LEAST);
        y.run(1);
        y.settled(1, FULFILLED, NUMBER, LEAST);
        Probe z = grouped("ALL: REJECTED with the VALUE of the first PLACE that was REJECTED", ALL, 5);
        for (int p = 0; p < 4; p++) {
            z.resolve(p, NUMBER, 1);
        }
        z.run(60);
        z.pending(5);
        z.reject(4, PROMISE, 5);
        z.run(60);
        z.settled(5, REJECTED, PROMISE, 5);
        Probe u = grouped("ALL: REJECTED with the VALUE of the first PLACE that was REJECTED", ALL, 3);
        u.reject(1, THENABLE, 3);
        u.reject(0, NUMBER, 2);
        u.run(1);
        u.settled(3, REJECTED, THENABLE, 3);
        u.resolve(2, NUMBER, 1);
        u.run(60);
        u.settled(3, REJECTED, THENABLE, 3);
    }

    private static void race() {
        Probe x = grouped("RACE: as the first PLACE was settled", RACE, 5);
        x.resolve(4, NUMBER, LEAST);
        x.reject(0, NUMBER, 1);
        x.run(1);
        x.settled(5, FULFILLED, NUMBER, LEAST);
        x.run(60);
        x.settled(5, FULFILLED, NUMBER, LEAST);
        Probe y = grouped("RACE: as the first PLACE was settled", RACE, 1);
        y.reject(0, PROMISE, 1);
        y.pending(1);
        y.run(1);
        y.settled(1, REJECTED, PROMISE, 1);
    }

    private static void countOfSettled() {
        String sentence = "SETTLED: RESOLVED, when all were settled, with the sum of i + 1 of those that were FULFILLED";
        Probe x = grouped(sentence, SETTLED, 5);
        for (int p = 0; p < 5; p++) {
            x.run(60);
            x.pending(5);
            x.resolve(p, NUMBER, LEAST);
        }
        x.run(60);
        x.settled(5, FULFILLED, NUMBER, 15);
        Probe y = grouped(sentence, SETTLED, 5);
        for (int p = 0; p < 5; p++) {
            y.is("settled", p == 1 || p == 4 ? y.resolve(p, NUMBER, 9) : y.reject(p, NUMBER, 9), true);
        }
        y.run(4);
        y.pending(5);
        y.run(1);
        y.settled(5, FULFILLED, NUMBER, 7);
        Probe z = grouped(sentence, SETTLED, 2);
        z.reject(1, NUMBER, 9);
        z.reject(0, NUMBER, 9);
        z.run(60);
        z.settled(2, FULFILLED, NUMBER, 0);
    }

    private static void any() {
        Probe x = grouped("ANY: RESOLVED with the NUMBER of the first one that was FULFILLED", ANY, 5);
        x.reject(0, NUMBER, 1);
        x.reject(4, NUMBER, 2);
        x.run(60);
        x.pending(5);
        x.resolve(3, NUMBER, MOST);
        x.resolve(1, NUMBER, 4);
        x.run(1);
        x.settled(5, FULFILLED, NUMBER, MOST);
        x.reject(2, NUMBER, 5);
        x.run(60);
        x.settled(5, FULFILLED, NUMBER, MOST);
        Probe y = grouped("ANY: REJECTED with the NUMBER -5 when all were REJECTED", ANY, 5);
        for (int p = 4; p >= 0; p--) {
            y.run(60);
            y.pending(5);
            y.reject(p, p % 3, 0);
        }
        y.run(60);
        y.settled(5, REJECTED, NUMBER, -5);
        y.is("d alone is LOOSE", y.count(6), 1);
    }

    private static void groupByKeyZero() {
        for (int kind = 0; kind < 4; kind++) {
            Probe x = grouped("By kind, d by KEY 0 is, kind " + kind, kind, 2);
            x.reject(2, NUMBER, 70);
            settleBoth(x, kind);
            x.settled(2, REJECTED, NUMBER, 70);
            Probe y = grouped("By kind, d by KEY 0 is, kind " + kind, kind, 2);
            y.resolve(2, THENABLE, 0);
            y.run(1);
            settleBoth(y, kind);
            y.pending(2);
            y.key(2, 1, false);
        }
    }

    private static void settleBoth(Probe x, int kind) {
        x.resolve(0, NUMBER, 1);
        x.is("settled", kind == ANY ? x.reject(1, NUMBER, 2) : x.resolve(1, NUMBER, 2), true);
        x.is("JOBS", x.run(60), 2);
    }

    // ---- A TURN

    private static void turns() {
        jobsBeforeTasks();
        theTaskThatIsDueFirst();
        timeNeverGoesBack();
        whatItGivesIsLost();
    }

    private static void jobsBeforeTasks() {
        Probe x = about("the next JOB is done, or, if there is none, the TASK that is due first").with(1);
        x.steps(0, SHOW, 0).steps(1, SHOW, 0, RESOLVE, 0);
        x.later(1, NUMBER, 1, 0);
        x.later(0, NUMBER, 2, 0);
        x.then(0, 0, -1);
        x.run(2);
        x.notes(1, 1);
        x.is("one TASK is left", x.count(3), 1);
        x.then(1, -1, -1);
        x.run(1);
        x.is("one TASK is left", x.count(3), 1);
        x.run(1);
        x.notes(1, 1, 2);
        x.is("run", x.run(1), 0);
    }

    private static void theTaskThatIsDueFirst() {
        Probe x = about("the TASK that is due first, of several the one that came first").steps(0, SHOW, 0);
        int[] times = {3, 1, 3, 0, 1, 3, 0, 1000};
        for (int i = 0; i < times.length; i++) {
            x.is("later", x.later(0, NUMBER, i, times[i]), i + 1);
        }
        x.run(60);
        x.notes(3, 6, 1, 4, 0, 2, 5, 7);
        x.is("TIME", x.count(4), 1000);
        Probe y = about("of several the one that came first: also of those that came later").steps(0, SHOW, 0);
        y.later(0, NUMBER, 1, 2);
        y.later(0, NUMBER, 2, 5);
        y.run(1);
        y.later(0, NUMBER, 3, 3);
        y.later(0, NUMBER, 4, 2);
        y.run(60);
        y.notes(1, 4, 2, 3);
    }

    private static void timeNeverGoesBack() {
        Probe x = about("TIME is then when it is due, if it was less").steps(0, LATER, 1).steps(1, SHOW, 0);
        x.later(0, NUMBER, 1, 7);
        x.later(0, NUMBER, 2, 7);
        x.later(0, NUMBER, 3, 9);
        int[] times = {7, 7, 9, 12, 12, 14};
        for (int time : times) {
            x.run(1);
            x.is("TIME", x.count(4), time);
        }
        x.is("run", x.run(60), 0);
        x.is("TIME", x.count(4), 14);
        x.then(x.promise(), 1, -1);
        x.resolve(0, NUMBER, 0);
        x.run(1);
        x.is("TIME in the TURN of a JOB", x.count(4), 14);
        x.later(1, NUMBER, 4, 0);
        x.run(1);
        x.is("TIME", x.count(4), 14);
    }

    private static void whatItGivesIsLost() {
        Probe x = about("what it GIVES or THROWS is lost").with(1);
        x.steps(0, SHOW, 0, GIVE, 0).steps(1, SHOW, 0, THROW, 0);
        x.later(0, PROMISE, 0, 0);
        x.later(1, PROMISE, 0, 0);
        x.is("run", x.run(60), 2);
        x.notes(0, 0);
        x.is("PROMISES", x.count(0), 1);
        x.is("JOBS", x.count(1), 0);
        x.is("LOOSE", x.count(6), 0);
        x.pending(0);
        x.key(0, 0, false);
    }
}
