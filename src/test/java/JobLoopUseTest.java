/** What stands before the document's Terms: an object is used for 512 calls. And no call throws, ever. */
public final class JobLoopUseTest implements Words {
    private static final int[] EDGES = {-2, -1, 0, 1, 2, 3, 4, 5, 9, 10, 11, 60, 61, 99, 100, 1000, LEAST, MOST};

    private static final Due due = new Due("JobLoopUseTest");

    private static long seed = 11;

    public static void main(String[] args) {
        tasksToTheLastCall();
        keysToTheLastCall();
        stopsToTheLastCall();
        forgottenToTheLastCall();
        for (int object = 0; object < 200; object++) {
            noCallThrows();
        }
        due.close();
    }

    private static Probe about(String what) {
        return new Probe(due, "used for at most 512 calls: " + what);
    }

    /** 100 NOTES a TURN, and TIME as late as it can be. */
    private static void tasksToTheLastCall() {
        Probe x = about("TASKS and NOTES");
        x.steps(0, SHOW, 0, LESS, 0);
        int turns = 253;
        for (int turn = 1; turn <= turns; turn++) {
            x.is("later", x.later(0, NUMBER, 99, 1000), 1);
            x.is("run", x.run(60), 1);
        }
        x.is("TIME", x.count(4), turns * 1000);
        x.is("how much was NOTED", x.count(5), turns * 100);
        x.is("the 60th", x.noted(59, 0), 59);
        x.is("its TURN, call 512", x.noted(59, 2), turns);
    }

    /** A THENABLE that RESOLVES with itself: a KEY more in each of 60 TURNS a call. */
    private static void keysToTheLastCall() {
        Probe x = about("KEYS");
        x.is("thenable", x.thenable(0, 0, THENABLE, 0, NUMBER, 0), true);
        x.is("promise", x.promise(), 0);
        x.is("resolve", x.resolve(0, THENABLE, 0), true);
        int calls = 505;
        for (int call = 0; call < calls; call++) {
            x.is("run", x.run(60), 60);
        }
        x.is("TURNS", x.count(2), calls * 60);
        x.is("JOBS", x.count(1), 1);
        x.is("last KEY", x.state(0, 5), calls * 60);
        x.is("used, call 512", x.state(0, 6), 1);
    }

    /** FUNCTIONS that stop for one PROMISE again and again, all of them in each row of TURNS. */
    private static void stopsToTheLastCall() {
        Probe x = about("FUNCTIONS that are stopped");
        x.sets(0, PROMISE, 0);
        x.steps(0, AWAIT, 0, IF, 0, GIVE, 0);
        x.is("promise", x.promise(), 0);
        x.is("resolve", x.resolve(0, NUMBER, 0), true);
        for (int r = 1; r < 100; r++) {
            x.is("start", x.start(0, NUMBER, 7), r);
        }
        int calls = 404;
        for (int call = 0; call < calls; call++) {
            x.is("run", x.run(60), 60);
        }
        x.is("JOBS", x.count(1), 99);
        x.is("TURNS", x.count(2), calls * 60);
        x.is("stopped, call 512", x.state(99, 7), 1);
    }

    private static void forgottenToTheLastCall() {
        Probe x = about("forget");
        for (int time = 0; time < 5; time++) {
            for (int p = 0; p < 100; p++) {
                x.is("promise", x.promise(), p);
            }
            x.is("FULL", x.promise(), FULL);
            x.is("forget", x.forget(), 100);
        }
        x.is("promise", x.promise(), 0);
        x.is("call 512", x.count(0), 1);
    }

    // ---- LANGUAGE.md, rule 7: any arguments in any state, behind the 512th call too

    private static void noCallThrows() {
        JobLoop x = new JobLoop();
        for (int i = 0; i < 3000; i++) {
            callOf(x, below(90));
        }
        due.is("an object that still answers", x.count(8), BAD);
    }

    private static void callOf(JobLoop x, int choice) {
        switch (choice) {
            case 0: x.forget(); break;
            case 1: x.promise(); break;
            case 2: x.empty(any()); break;
            case 3: case 4: case 5: case 6: x.resolve(any(), any(), any()); break;
            case 7: case 8: x.reject(any(), any(), any()); break;
            case 9: case 10: case 11: x.then(any(), any(), any()); break;
            case 12: case 13: x.thenable(any(), any(), any(), any(), any(), any()); break;
            case 14: case 15: case 16: case 17: x.start(any(), any(), any()); break;
            case 18: case 19: x.later(any(), any(), any(), any()); break;
            case 20: case 21: x.item(any(), any()); break;
            case 22: case 23: x.group(any()); break;
            case 24: case 25: case 26: x.run(any()); break;
            case 27: case 28: x.state(any(), any()); break;
            case 29: x.noted(any(), any()); break;
            case 30: x.count(any()); break;
            default: x.step(any(), below(17) - 1, any(), any()); break;
        }
    }

    /** Any number, though mostly a small one: else hardly a call would be more than refused. */
    private static int any() {
        return below(6) == 0 ? EDGES[below(EDGES.length)] : below(3);
    }

    private static int below(int bound) {
        seed = seed * 6364136223846793005L + 1442695040888963407L;
        return (int) ((seed >>> 33) % bound);
    }
}
