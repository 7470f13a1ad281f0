/** The sentences of promises 1 to 18 that name a boundary case, in the document's order. */
public final class JobLoopCallEdgesTest implements Words {
    private static final int[] FAR = {LEAST, MOST};
    private static final Due due = new Due("JobLoopCallEdgesTest");

    public static void main(String[] args) {
        newObject();
        promise();
        resolve();
        reject();
        then();
        thenable();
        step();
        empty();
        start();
        later();
        item();
        group();
        run();
        forget();
        state();
        noted();
        count();
        order();
        limits();
        due.close();
    }

    private static Probe about(String sentence) {
        return new Probe(due, sentence);
    }

    // ---- 1

    private static void newObject() {
        Probe x = about("1: No PROMISES, JOBS, TASKS, STEPS, ITEMS; TIME 0; nothing NOTED");
        for (int what = 0; what < 8; what++) {
            x.is("count(" + what + ")", x.count(what), 0);
        }
        for (int what = 0; what < 3; what++) {
            x.is("noted(0, " + what + ")", x.noted(0, what), JobLoop.NONE);
        }
        for (int what = 0; what < 8; what++) {
            x.is("state(0, " + what + ")", x.state(0, what), BAD);
        }
        x.is("run", x.run(60), 0);
        x.is("no TURN", x.count(2), 0);
        for (int f = 0; f < 10; f++) {
            x.is("empty(" + f + ")", x.empty(f), 0);
        }
        x.is("forget", x.forget(), 0);
        Probe y = about("1: THENABLES of kind 3").with(4);
        thenablesDoNothing(y);
        Probe z = about("1: No .. ITEMS");
        z.group(ALL);
        z.settled(0, FULFILLED, NUMBER, 0);
    }

    /** PROMISES 0 to 3 are RESOLVED with THENABLES 0 to 3, in vain. */
    private static void thenablesDoNothing(Probe x) {
        for (int t = 0; t < 4; t++) {
            x.resolve(t, THENABLE, t);
        }
        x.is("run", x.run(60), 4);
        for (int t = 0; t < 4; t++) {
            x.pending(t);
            x.key(t, 1, false);
        }
    }

    // ---- 2

    private static void promise() {
        Probe x = about("2: A new PROMISE: its number; FULL if there are 100");
        for (int i = 0; i < 100; i++) {
            x.is("promise", x.promise(), i);
        }
        String before = x.seen();
        x.is("promise", x.promise(), FULL);
        x.is("promise", x.promise(), FULL);
        x.same(before);
        x.is("forget", x.forget(), 100);
        x.is("promise", x.promise(), 0);
        Probe y = about("2: A new PROMISE: its number, behind those that came otherwise").with(1);
        y.then(0, -1, -1);
        y.start(0, NUMBER, 0);
        y.item(NUMBER, 0);
        y.group(ALL);
        y.is("promise", y.promise(), 5);
        y.pending(5);
        y.key(5, 0, false);
    }

    // ---- 3, 4

    private static void resolve() {
        Probe x = about("3: true, by KEY 0").with(100);
        x.is("the first", x.resolve(0, NUMBER, 1), true);
        x.is("the last", x.resolve(99, PROMISE, 98), true);
        x.is("in vain", x.resolve(0, NUMBER, 2), true);
        x.settled(0, FULFILLED, NUMBER, 1);
        x.key(99, 0, true);
        Probe y = about("3: false, and nothing changes, if there is no such PROMISE, or VALUE").with(2);
        y.then(0, -1, -1);
        String before = y.seen();
        for (int wrong : new int[] {-1, 4, 100, LEAST, MOST}) {
            y.is("p " + wrong, y.resolve(wrong, NUMBER, 0), false);
            y.is("sort " + wrong, y.resolve(0, wrong, 0), false);
            y.is("PROMISE " + wrong, y.resolve(0, PROMISE, wrong), false);
            y.is("THENABLE " + wrong, y.resolve(0, THENABLE, wrong), false);
        }
        y.is("p 3", y.resolve(3, NUMBER, 0), false);
        y.is("sort 3", y.resolve(0, 3, 0), false);
        y.is("PROMISE 3", y.resolve(0, PROMISE, 3), false);
        y.same(before);
        Probe z = about("3: no such PROMISE in a new object");
        z.is("resolve", z.resolve(0, NUMBER, 0), false);
        z.is("with itself", z.resolve(0, PROMISE, 0), false);
    }

    private static void reject() {
        Probe x = about("4: It is REJECTED, likewise").with(100);
        x.is("the first", x.reject(0, THENABLE, 3), true);
        x.is("the last", x.reject(99, PROMISE, 99), true);
        x.is("in vain", x.reject(0, NUMBER, 2), true);
        x.settled(0, REJECTED, THENABLE, 3);
        x.settled(99, REJECTED, PROMISE, 99);
        Probe y = about("4: likewise: false, and nothing changes").with(3);
        String before = y.seen();
        for (int wrong : new int[] {-1, 4, 100, LEAST, MOST}) {
            y.is("p " + wrong, y.reject(wrong, NUMBER, 0), false);
            y.is("sort " + wrong, y.reject(0, wrong, 0), false);
            y.is("PROMISE " + wrong, y.reject(0, PROMISE, wrong), false);
            y.is("THENABLE " + wrong, y.reject(0, THENABLE, wrong), false);
        }
        y.is("p 3", y.reject(3, NUMBER, 0), false);
        y.is("sort 3", y.reject(0, 3, 0), false);
        y.is("PROMISE 3", y.reject(0, PROMISE, 3), false);
        y.same(before);
        Probe z = about("4: no such PROMISE in a new object");
        z.is("reject", z.reject(0, NUMBER, 0), false);
    }

    // ---- 5

    private static void then() {
        Probe x = about("5: its number").with(1);
        x.is("both none", x.then(0, -1, -1), 1);
        x.is("the least", x.then(0, 0, 0), 2);
        x.is("the most", x.then(0, 9, 9), 3);
        x.is("of the last one", x.then(3, -1, 9), 4);
        x.is("REACTIONS", x.state(0, 4), 3);
        Probe y = about("5: BAD if a number is not as said").with(2);
        String before = y.seen();
        for (int wrong : new int[] {-2, 10, LEAST, MOST}) {
            y.is("f " + wrong, y.then(0, wrong, -1), BAD);
            y.is("g " + wrong, y.then(0, -1, wrong), BAD);
            y.is("p " + wrong, y.then(wrong, -1, -1), BAD);
        }
        y.is("p -1", y.then(-1, -1, -1), BAD);
        y.is("p 2", y.then(2, -1, -1), BAD);
        y.same(before);
        Probe z = about("5: else FULL if there are 100").with(100);
        before = z.seen();
        z.is("FULL", z.then(99, -1, -1), FULL);
        z.is("BAD before FULL: p", z.then(100, -1, -1), BAD);
        z.is("BAD before FULL: f", z.then(99, 10, -1), BAD);
        z.is("BAD before FULL: g", z.then(99, -1, -2), BAD);
        z.same(before);
        z.reject(99, NUMBER, 1);
        z.then(99, -1, -1);
        z.is("it is LOOSE still", z.state(99, 3), 1);
    }

    // ---- 6

    private static void thenable() {
        Probe x = about("6: A THENABLE has a kind 0..3, u and w (sorts and numbers): true").with(8);
        for (int t = 0; t < 4; t++) {
            x.is("thenable " + t, x.thenable(t, t, t % 3, t == 1 ? 7 : 3, (t + 1) % 3, 0), true);
            x.resolve(t, THENABLE, t);
        }
        x.run(4);
        x.settled(0, FULFILLED, NUMBER, 3);
        x.settled(1, REJECTED, PROMISE, 7);
        x.is("kind 2: a THENABLE to ADOPT", x.count(1), 1);
        x.key(2, 1, true);
        x.key(3, 1, false);
        x.is("w may be any VALUE", x.thenable(0, 2, NUMBER, 1, PROMISE, 7), true);
        x.is("of itself", x.thenable(0, 2, THENABLE, 0, THENABLE, 0), true);
        Probe y = about("6: false, and nothing changes, if one is not as said");
        for (int wrong : new int[] {-1, 4, LEAST, MOST}) {
            refusedThenable(y, wrong, 0, NUMBER, 5, NUMBER, 6);
            refusedThenable(y, 0, wrong, NUMBER, 5, NUMBER, 6);
            refusedThenable(y, 0, 0, wrong, 0, NUMBER, 6);
            refusedThenable(y, 0, 0, NUMBER, 5, wrong, 0);
            refusedThenable(y, 0, 0, PROMISE, wrong, NUMBER, 6);
            refusedThenable(y, 0, 0, THENABLE, wrong, NUMBER, 6);
            refusedThenable(y, 0, 3, NUMBER, 5, PROMISE, wrong);
            refusedThenable(y, 0, 3, NUMBER, 5, THENABLE, wrong);
        }
        refusedThenable(y, 0, 0, 3, 0, NUMBER, 6);
        refusedThenable(y, 0, 3, NUMBER, 0, 3, 6);
    }

    /** THENABLE 0 stays one that RESOLVES with 50. */
    private static void refusedThenable(Probe x, int t, int kind, int uSort, int u, int wSort, int w) {
        x.forget();
        x.with(1).thenable(0, 0, NUMBER, 50, NUMBER, 60);
        x.is("thenable", x.thenable(t, kind, uSort, u, wSort, w), false);
        x.resolve(0, THENABLE, 0);
        x.run(1);
        x.settled(0, FULFILLED, NUMBER, 50);
    }

    // ---- 7

    private static void step() {
        stepsAsSaid();
        stepsNotAsSaid();
        stepsNotLookedAt();
        stepsFull();
    }

    private static void stepsAsSaid() {
        Probe x = about("7: how many it has, at the edges of each number");
        x.is("SET any NUMBER", x.step(0, SET, NUMBER, LEAST), 1);
        x.is("SET any NUMBER", x.step(0, SET, NUMBER, MOST), 2);
        x.is("SET PROMISE 0, which is not there yet", x.step(0, SET, PROMISE, 0), 3);
        x.is("SET PROMISE 99", x.step(0, SET, PROMISE, 99), 4);
        x.is("SET THENABLE 0", x.step(0, SET, THENABLE, 0), 5);
        x.is("SET THENABLE 3", x.step(0, SET, THENABLE, 3), 6);
        int f = 1;
        for (int what : new int[] {CALL, THEN, LATER, IF, LESS, RESOLVE, REJECT}) {
            int most = what == IF || what == LESS ? 10 : what == RESOLVE || what == REJECT ? 99 : 9;
            x.is("STEP " + what + " with 0", x.step(f, what, NUMBER, 0), 1);
            x.is("STEP " + what + " with " + most, x.step(f, what, NUMBER, most), 2);
            f++;
        }
        for (int what = 0; what < 15; what++) {
            x.is("what " + what, x.step(8 + what / 10, what, NUMBER, 0), what % 10 + 1);
        }
    }

    private static void stepsNotAsSaid() {
        Probe x = about("7: BAD if a number is not as said");
        for (int wrong : FAR) {
            badStep(x, wrong, NOTE, NUMBER, 0);
            badStep(x, 0, wrong, NUMBER, 0);
            badStep(x, 0, SET, wrong, 0);
            badStep(x, 0, SET, PROMISE, wrong);
            badStep(x, 0, SET, THENABLE, wrong);
        }
        badStep(x, -1, NOTE, NUMBER, 0);
        badStep(x, 10, NOTE, NUMBER, 0);
        badStep(x, 0, -1, NUMBER, 0);
        badStep(x, 0, 15, NUMBER, 0);
        badStep(x, 0, SET, -1, 0);
        badStep(x, 0, SET, 3, 0);
        badStep(x, 0, SET, PROMISE, -1);
        badStep(x, 0, SET, PROMISE, 100);
        badStep(x, 0, SET, THENABLE, -1);
        badStep(x, 0, SET, THENABLE, 4);
        for (int what : new int[] {CALL, THEN, LATER, IF, LESS, RESOLVE, REJECT}) {
            int most = what == IF || what == LESS ? 10 : what == RESOLVE || what == REJECT ? 99 : 9;
            for (int wrong : new int[] {-1, most + 1, LEAST, MOST}) {
                badStep(x, 0, what, NUMBER, wrong);
            }
        }
        for (int f = 0; f < 10; f++) {
            x.is("no STEP came", x.empty(f), 0);
        }
    }

    private static void badStep(Probe x, int f, int what, int sort, int n) {
        x.is("step(" + f + ", " + what + ", " + sort + ", " + n + ")", x.step(f, what, sort, n), BAD);
    }

    private static void stepsNotLookedAt() {
        Probe x = about("7: else they are not looked at");
        int times = 0;
        for (int what : new int[] {SHOW, GIVE, THROW, AWAIT, TRY, END}) {
            times++;
            x.is("sort and n of " + what, x.step(0, what, -times, LEAST), times);
            x.is("sort and n of " + what, x.step(1, what, MOST, MOST), times);
        }
        x.is("sort of NOTE", x.step(2, NOTE, PROMISE, 77), 1);
        x.is("sort of NOTE", x.step(2, NOTE, LEAST, MOST), 2);
        x.start(2, NUMBER, 0);
        x.notes(77, MOST);
        x.is("the sort of a NOTE is 0", x.noted(0, 1) + x.noted(1, 1), NUMBER);
        for (int what : new int[] {CALL, THEN, LATER, IF, LESS, RESOLVE, REJECT}) {
            x.is("sort of " + what, x.step(3, what, what % 2 == 0 ? LEAST : MOST, 0) > 0, true);
        }
    }

    private static void stepsFull() {
        for (int f = 0; f < 10; f += 9) {
            Probe x = about("7: FULL if it has 10");
            for (int i = 1; i <= 10; i++) {
                x.is("step", x.step(f, NOTE, 0, i), i);
            }
            x.is("FULL", x.step(f, NOTE, 0, 11), FULL);
            x.is("BAD before FULL", x.step(f, IF, 0, 11), BAD);
            x.is("another one has room", x.step(9 - f, NOTE, 0, 20), 1);
            x.start(f, NUMBER, 0);
            x.notes(1, 2, 3, 4, 5, 6, 7, 8, 9, 10);
            x.is("empty", x.empty(f), 10);
            x.is("room again", x.step(f, NOTE, 0, 1), 1);
        }
    }

    // ---- 8

    private static void empty() {
        Probe x = about("8: how many it had; BAD if there is none");
        for (int f = -1; f < 11; f += 11) {
            x.is("empty(" + f + ")", x.empty(f), BAD);
        }
        for (int f : FAR) {
            x.is("empty(" + f + ")", x.empty(f), BAD);
        }
        x.steps(0, NOTE, 1, NOTE, 2).steps(9, NOTE, 3);
        x.is("the last one", x.empty(9), 1);
        x.is("again", x.empty(9), 0);
        x.is("the first one", x.empty(0), 2);
        x.is("again", x.empty(0), 0);
        x.start(0, NUMBER, 0);
        x.notes();
        Probe y = about("8: one that is stopped GIVES 0 when it goes on").with(1);
        stoppedAndEmptied(y);
        y.resolve(0, NUMBER, 9);
        y.is("run", y.run(60), 1);
        y.settled(1, FULFILLED, NUMBER, 0);
        y.is("stopped no more", y.state(1, 7), 0);
        y.notes();
        Probe z = about("8: or, if the PROMISE for which it waits was REJECTED, THROWS its VALUE").with(1);
        stoppedAndEmptied(z);
        z.reject(0, PROMISE, 1);
        z.is("run", z.run(60), 1);
        z.settled(1, REJECTED, PROMISE, 1);
        z.is("stopped no more", z.state(1, 7), 0);
        z.notes();
    }

    private static void stoppedAndEmptied(Probe x) {
        x.steps(0, TRY, 0, AWAIT, 0, NOTE, 1, END, 0, SHOW, 0, GIVE, 0);
        x.start(0, PROMISE, 0);
        x.is("empty", x.empty(0), 6);
        x.is("it is stopped still", x.state(1, 7), 1);
        x.is("it waits still", x.state(0, 4), 1);
    }

    // ---- 9

    private static void start() {
        Probe x = about("9: BAD if a number is not as said").with(1).steps(0, NOTE, 1);
        String before = x.seen();
        for (int wrong : new int[] {-1, 10, LEAST, MOST}) {
            x.is("f " + wrong, x.start(wrong, NUMBER, 0), BAD);
            x.is("sort " + wrong, x.start(0, wrong, 0), BAD);
            x.is("PROMISE " + wrong, x.start(0, PROMISE, wrong), BAD);
            x.is("THENABLE " + wrong, x.start(0, THENABLE, wrong), BAD);
        }
        x.is("sort 3", x.start(0, 3, 0), BAD);
        x.is("PROMISE 1, its own", x.start(0, PROMISE, 1), BAD);
        x.is("THENABLE 4", x.start(0, THENABLE, 4), BAD);
        x.same(before);
        Probe y = about("9: else FULL if there are 100").with(99).steps(0, NOTE, 1).steps(9, NOTE, 2);
        y.is("the 100th", y.start(9, THENABLE, 3), 99);
        before = y.seen();
        y.is("FULL", y.start(0, NUMBER, 0), FULL);
        y.is("BAD before FULL: f", y.start(10, NUMBER, 0), BAD);
        y.is("BAD before FULL: sort", y.start(0, 3, 0), BAD);
        y.is("BAD before FULL: PROMISE", y.start(0, PROMISE, 100), BAD);
        y.same(before);
        y.notes(2);
    }

    // ---- 10

    private static void later() {
        Probe x = about("10: A TASK is due in some time (0..1000): how many are not done").with(1);
        x.steps(0, SHOW, 0).steps(9, SHOW, 0);
        x.is("1000", x.later(0, NUMBER, 5, 1000), 1);
        x.is("0", x.later(9, PROMISE, 0, 0), 2);
        x.is("999", x.later(0, THENABLE, 3, 999), 3);
        int[] times = {0, 999, 1000};
        int[] notes = {0, 3, 5};
        for (int i = 0; i < 3; i++) {
            x.is("run", x.run(1), 1);
            x.is("TIME", x.count(4), times[i]);
            x.is("X", x.noted(0, 0), notes[i]);
            x.is("not done", x.count(3), 2 - i);
        }
        x.is("later", x.later(0, NUMBER, 0, 1000), 1);
        x.run(1);
        x.is("TIME", x.count(4), 2000);
        laterNotAsSaid();
        laterFull();
    }

    private static void laterNotAsSaid() {
        Probe x = about("10: BAD if a number is not as said").with(1);
        String before = x.seen();
        for (int wrong : new int[] {-1, 10, LEAST, MOST}) {
            x.is("f " + wrong, x.later(wrong, NUMBER, 0, 0), BAD);
            x.is("sort " + wrong, x.later(0, wrong, 0, 0), BAD);
            x.is("PROMISE " + wrong, x.later(0, PROMISE, wrong, 0), BAD);
            x.is("THENABLE " + wrong, x.later(0, THENABLE, wrong, 0), BAD);
            x.is("time " + wrong, x.later(0, NUMBER, 0, wrong == 10 ? 1001 : wrong), BAD);
        }
        x.is("sort 3", x.later(0, 3, 0, 0), BAD);
        x.is("PROMISE 1", x.later(0, PROMISE, 1, 0), BAD);
        x.is("THENABLE 4", x.later(0, THENABLE, 4, 0), BAD);
        x.same(before);
    }

    private static void laterFull() {
        Probe x = about("10: else FULL if there are 32").steps(0, SHOW, 0);
        for (int i = 1; i <= 32; i++) {
            x.is("later", x.later(0, NUMBER, i, 0), i);
        }
        String before = x.seen();
        x.is("FULL", x.later(0, NUMBER, 33, 0), FULL);
        x.is("BAD before FULL: f", x.later(10, NUMBER, 33, 0), BAD);
        x.is("BAD before FULL: VALUE", x.later(0, PROMISE, 0, 0), BAD);
        x.is("BAD before FULL: time", x.later(0, NUMBER, 33, 1001), BAD);
        x.same(before);
        x.run(1);
        x.is("room for one", x.later(0, NUMBER, 34, 0), 32);
        x.is("FULL", x.later(0, NUMBER, 35, 0), FULL);
        x.is("run", x.run(60), 32);
        x.is("the last one", x.noted(0, 0), 34);
        x.is("the one before", x.noted(1, 0), 32);
    }

    // ---- 11

    private static void item() {
        Probe x = about("11: Another ITEM: how many; BAD if there is no such VALUE").with(1);
        String before = x.seen();
        for (int wrong : new int[] {-1, 4, LEAST, MOST}) {
            x.is("sort " + wrong, x.item(wrong, 0), BAD);
            x.is("PROMISE " + wrong, x.item(PROMISE, wrong), BAD);
            x.is("THENABLE " + wrong, x.item(THENABLE, wrong), BAD);
        }
        x.is("sort 3", x.item(3, 0), BAD);
        x.is("PROMISE 1", x.item(PROMISE, 1), BAD);
        x.same(before);
        Probe y = about("11: FULL if there are 5").with(1);
        y.is("1", y.item(PROMISE, 0), 1);
        y.is("2", y.item(PROMISE, 0), 2);
        y.is("3", y.item(THENABLE, 3), 3);
        y.is("4", y.item(NUMBER, MOST), 4);
        y.is("5", y.item(NUMBER, LEAST), 5);
        before = y.seen();
        y.is("FULL", y.item(NUMBER, 1), FULL);
        y.is("BAD before FULL", y.item(PROMISE, 1), BAD);
        y.same(before);
        y.group(RACE);
        y.is("they are no more", y.count(7), 0);
        y.is("room again", y.item(NUMBER, 1), 1);
    }

    // ---- 12

    private static void group() {
        Probe x = about("12: BAD if kind is not 0..3").with(1);
        x.item(PROMISE, 0);
        String before = x.seen();
        for (int wrong : new int[] {-1, 4, LEAST, MOST}) {
            x.is("group(" + wrong + ")", x.group(wrong), BAD);
        }
        x.same(before);
        groupTakesItsItems();
        for (int numbers = 0; numbers <= 5; numbers++) {
            groupThatFits(numbers);
        }
    }

    private static void groupTakesItsItems() {
        Probe x = about("12: with the ITEMS, which are no more then: its PROMISE").with(1);
        for (int kind = 0; kind < 4; kind++) {
            x.item(PROMISE, 0);
            x.is("group", x.group(kind), kind + 1);
            x.is("ITEMS", x.count(7), 0);
        }
        x.is("without ITEMS", x.group(ALL), 5);
        x.settled(5, FULFILLED, NUMBER, 0);
        x.resolve(0, NUMBER, 6);
        x.run(60);
        x.settled(1, FULFILLED, NUMBER, 6);
        x.settled(2, FULFILLED, NUMBER, 6);
        x.settled(3, FULFILLED, NUMBER, 1);
        x.settled(4, FULFILLED, NUMBER, 6);
    }

    /** Some ITEMS are no PROMISES, so that each of them needs a new one; the others are. */
    private static void groupThatFits(int numbers) {
        Probe x = about("12: 100 PROMISES with " + numbers + " for ITEMS").with(99 - numbers);
        Probe y = about("12: else FULL, and nothing changes, with " + numbers + " for ITEMS").with(100 - numbers);
        for (int i = 0; i < 5; i++) {
            int sort = i >= numbers ? PROMISE : i % 2 == 0 ? THENABLE : NUMBER;
            x.item(sort, 3);
            y.item(sort, 3);
        }
        x.is("group", x.group(RACE), 99 - numbers);
        x.is("PROMISES", x.count(0), 100);
        x.is("ITEMS", x.count(7), 0);
        String before = y.seen();
        y.is("FULL", y.group(RACE), FULL);
        y.is("BAD before FULL", y.group(4), BAD);
        y.same(before);
        y.is("nobody waits", y.state(3, 4), 0);
        y.is("ITEMS", y.count(7), 5);
    }

    // ---- 13

    private static void run() {
        Probe x = about("13: Up to n TURNS (0..60): how many there were; BAD for another n").with(1);
        x.thenable(0, 0, THENABLE, 0, NUMBER, 0);
        x.resolve(0, THENABLE, 0);
        String before = x.seen();
        for (int wrong : new int[] {-1, 61, LEAST, MOST}) {
            x.is("run(" + wrong + ")", x.run(wrong), BAD);
        }
        x.is("run(0)", x.run(0), 0);
        x.same(before);
        x.is("run(1)", x.run(1), 1);
        x.is("run(59)", x.run(59), 59);
        x.is("run(60)", x.run(60), 60);
        x.is("TURNS", x.count(2), 120);
        x.is("KEYS", x.state(0, 5), 120);
        Probe y = about("13: how many there were: fewer than n").with(1);
        y.is("none", y.run(60), 0);
        y.then(0, -1, -1);
        y.is("none", y.run(60), 0);
        y.resolve(0, NUMBER, 1);
        y.later(0, NUMBER, 0, 1000);
        y.is("a JOB and a TASK", y.run(60), 2);
        y.then(0, -1, -1);
        y.is("just one", y.run(1), 1);
        y.is("none", y.run(1), 0);
        y.is("TURNS", y.count(2), 3);
        Probe z = about("13: JOBS that come in a TURN are done in the TURNS behind it").with(1);
        for (int p = 0; p < 59; p++) {
            z.then(p, -1, -1);
        }
        z.resolve(0, NUMBER, 1);
        z.is("run", z.run(60), 59);
        z.settled(59, FULFILLED, NUMBER, 1);
    }

    // ---- 14

    private static void forget() {
        Probe x = about("14: how many PROMISES there were");
        x.is("none", x.forget(), 0);
        x.with(100);
        x.is("100", x.forget(), 100);
        x.is("none", x.forget(), 0);
        forgetAll();
        forgetThenables();
        forgetJobsThatWait();
        forgetStopped();
        forgetGroups();
    }

    private static void forgetAll() {
        Probe x = about("14: All is as at first").with(2).steps(0, NOTE, 1, LATER, 0, AWAIT, 0, THROW, 0);
        String first = about("a new object").seen();
        x.start(0, PROMISE, 0);
        x.reject(0, NUMBER, 3);
        x.later(0, NUMBER, 0, 100);
        x.run(60);
        x.resolve(1, THENABLE, 0);
        x.item(NUMBER, 1);
        x.later(0, NUMBER, 0, 1);
        x.is("there is something", x.count(1) * x.count(2) * x.count(3) * x.count(4) * x.count(5) > 0, true);
        x.is("LOOSE, ITEMS", x.count(6) * x.count(7) > 0, true);
        x.is("forget", x.forget(), 3);
        x.same(first);
        x.is("run", x.run(60), 0);
        x.with(2);
        for (int p = 0; p < 2; p++) {
            x.pending(p);
            x.key(p, 0, false);
            x.is("state 1", x.state(p, 1), BAD);
            for (int what : new int[] {3, 4, 7}) {
                x.is("state " + what, x.state(p, what), 0);
            }
        }
        x.reject(0, NUMBER, 4);
        x.is("LOOSE, as nobody waited", x.state(0, 3), 1);
        x.is("no JOBS", x.count(1), 0);
        x.later(0, NUMBER, 0, 3);
        x.run(1);
        x.is("TIME from 0 on", x.count(4), 3);
        x.is("TURNS from 0 on", x.noted(0, 2), 1);
        x.is("NOTES from 0 on", x.noted(1, 0), JobLoop.NONE);
        Probe y = about("14: but FUNCTIONS keep their STEPS");
        for (int f = 0; f < 10; f++) {
            y.steps(f, NOTE, f, SHOW, 0);
        }
        y.forget();
        y.start(9, NUMBER, 40);
        y.notes(9, 40);
        for (int f = 0; f < 10; f++) {
            y.is("empty", y.empty(f), 2);
        }
    }

    private static void forgetThenables() {
        Probe x = about("14: All is as at first: THENABLES of kind 3").with(1);
        for (int t = 0; t < 4; t++) {
            x.thenable(t, t % 3, NUMBER, 1, NUMBER, 1);
        }
        x.forget();
        thenablesDoNothing(x.with(4));
    }

    private static void forgetJobsThatWait() {
        Probe x = about("14: All is as at first: no JOBS").with(3).steps(0, SHOW, 0);
        for (int i = 0; i < 5; i++) {
            x.then(i % 3, 0, 0);
        }
        x.resolve(0, NUMBER, 1);
        x.resolve(1, NUMBER, 2);
        x.is("JOBS", x.count(1), 4);
        x.run(1);
        x.forget();
        x.with(2);
        x.then(1, 0, -1);
        x.then(0, 0, -1);
        x.resolve(0, NUMBER, 3);
        x.resolve(1, NUMBER, 4);
        x.is("JOBS", x.run(60), 2);
        x.notes(3, 4);
    }

    private static void forgetStopped() {
        Probe x = about("14: All is as at first: none is stopped").with(1).steps(0, AWAIT, 0, NOTE, 1);
        x.start(0, PROMISE, 0);
        x.is("stopped", x.state(1, 7), 1);
        x.item(PROMISE, 0);
        x.group(ALL);
        x.forget();
        x.with(3);
        for (int p = 0; p < 3; p++) {
            x.is("not stopped", x.state(p, 7), 0);
        }
        x.resolve(0, NUMBER, 1);
        x.is("nobody waited", x.run(60), 0);
        x.notes();
        x.is("start", x.start(0, PROMISE, 1), 3);
        x.is("stopped", x.state(3, 7), 1);
    }

    private static void forgetGroups() {
        for (int kind = 0; kind < 4; kind += 2) {
            Probe x = about("14: All is as at first: no GROUP counts on, kind " + kind).with(2);
            x.item(PROMISE, 0);
            x.item(PROMISE, 1);
            x.is("group", x.group(kind), 2);
            x.resolve(1, NUMBER, 1);
            x.run(60);
            x.forget();
            x.with(2);
            x.item(PROMISE, 0);
            x.is("group", x.group(kind), 2);
            x.resolve(1, NUMBER, 1);
            x.is("it waits for its own", x.run(60), 0);
            x.resolve(0, NUMBER, 1);
            x.is("run", x.run(60), 1);
            x.settled(2, FULFILLED, NUMBER, 1);
        }
    }

    // ---- 15

    private static void state() {
        stateNotAsSaid();
        stateOfValues();
        stateOfKeys();
        stateOfStopped();
    }

    private static void stateNotAsSaid() {
        Probe x = about("15: BAD if there is none, for others, and for 1, 2 if it is PENDING").with(2);
        x.resolve(1, NUMBER, 5);
        for (int wrong : new int[] {-1, 8, LEAST, MOST}) {
            x.is("what " + wrong, x.state(0, wrong), BAD);
            x.is("what " + wrong, x.state(1, wrong), BAD);
        }
        for (int what = -1; what < 9; what++) {
            for (int p : new int[] {-1, 2, 100, LEAST, MOST}) {
                x.is("state(" + p + ", " + what + ")", x.state(p, what), BAD);
            }
            int want = what == -1 || what == 1 || what == 2 || what == 8 ? BAD : 0;
            x.is("PENDING, " + what, x.state(0, what), want);
        }
        x.resolve(0, PROMISE, 1);
        x.is("PENDING still, 1", x.state(0, 1), BAD);
        x.is("PENDING still, 2", x.state(0, 2), BAD);
        x.run(1);
        x.is("PENDING still, 1", x.state(0, 1), BAD);
        x.run(1);
        x.is("no more, 2", x.state(0, 2), 5);
    }

    private static void stateOfValues() {
        Probe x = about("15: 0: PENDING, FULFILLED, REJECTED; 1, 2: sort and number of its VALUE").with(5);
        x.resolve(0, NUMBER, LEAST);
        x.reject(1, NUMBER, MOST);
        x.reject(2, PROMISE, 4);
        x.reject(3, THENABLE, 3);
        x.settled(0, FULFILLED, NUMBER, LEAST);
        x.settled(1, REJECTED, NUMBER, MOST);
        x.settled(2, REJECTED, PROMISE, 4);
        x.settled(3, REJECTED, THENABLE, 3);
        x.pending(4);
        Probe y = about("15: 4: how many REACTIONS it has").with(1);
        for (int i = 1; i < 100; i++) {
            y.then(0, -1, -1);
        }
        y.is("99", y.state(0, 4), 99);
        y.reject(0, NUMBER, 1);
        y.is("0", y.state(0, 4), 0);
        y.is("99 JOBS", y.count(1), 99);
        y.is("run", y.run(60), 60);
        y.is("run", y.run(60), 39);
        y.is("98 are LOOSE, and one", y.count(6), 99);
        y.is("not the first one", y.state(0, 3), 0);
    }

    private static void stateOfKeys() {
        Probe x = about("15: 5: its last KEY; 6: 1 if that is used").with(2);
        x.key(0, 0, false);
        x.resolve(0, PROMISE, 1);
        x.key(0, 0, true);
        x.run(1);
        x.key(0, 1, false);
        x.resolve(1, NUMBER, 1);
        x.key(0, 1, false);
        x.key(1, 0, true);
        x.run(1);
        x.key(0, 1, true);
    }

    private static void stateOfStopped() {
        Probe x = about("15: 7: 1 if a FUNCTION that was STARTED with it is stopped, else 0").with(2);
        x.steps(0, AWAIT, 0, NOTE, 1, AWAIT, 0);
        x.is("start", x.start(0, PROMISE, 0), 2);
        x.is("its PROMISE", x.state(2, 7), 1);
        x.is("not the one for which it waits", x.state(0, 7), 0);
        x.resolve(2, NUMBER, 7);
        x.is("though that is settled", x.state(2, 7), 1);
        x.resolve(0, NUMBER, 1);
        x.is("till its JOB is done", x.state(2, 7), 1);
        x.run(1);
        x.is("it stops again", x.state(2, 7), 1);
        x.is("for a new one", x.count(0), 4);
        x.run(1);
        x.is("it ended", x.state(2, 7), 0);
        x.is("start", x.start(0, PROMISE, 1), 4);
        x.reject(1, NUMBER, 1);
        x.run(1);
        x.is("it threw", x.state(4, 7), 0);
        x.steps(1, NOTE, 1);
        x.is("one that never stops", x.state(x.start(1, NUMBER, 0), 7), 0);
    }

    // ---- 16

    private static void noted() {
        notedNotAsSaid();
        notedSixty();
        notedTurns();
    }

    private static void notedNotAsSaid() {
        Probe x = about("16: NONE if there is none, or for others").steps(0, NOTE, 5);
        x.is("none", x.noted(0, 0), JobLoop.NONE);
        x.start(0, NUMBER, 0);
        x.is("one", x.noted(0, 0), 5);
        x.is("sort", x.noted(0, 1), NUMBER);
        x.is("TURN", x.noted(0, 2), 0);
        for (int what = 0; what < 3; what++) {
            for (int k : new int[] {-1, 1, 60, LEAST, MOST}) {
                x.is("noted(" + k + ", " + what + ")", x.noted(k, what), JobLoop.NONE);
            }
        }
        for (int what : new int[] {-1, 3, LEAST, MOST}) {
            x.is("noted(0, " + what + ")", x.noted(0, what), JobLoop.NONE);
            x.is("noted(1, " + what + ")", x.noted(1, what), JobLoop.NONE);
        }
        x.is("NONE", JobLoop.NONE, 1L << 40);
    }

    /** A FUNCTION that SHOWS the NUMBERS from X down to 0. */
    private static Probe countingDown(String sentence) {
        return about(sentence).steps(0, SHOW, 0, LESS, 0);
    }

    private static void notedSixty() {
        Probe x = countingDown("16: 0 the latest; the last 60 are kept");
        x.start(0, NUMBER, 58);
        x.is("59", x.count(5), 59);
        x.is("the 59th", x.noted(58, 0), 58);
        x.is("no 60th", x.noted(59, 0), JobLoop.NONE);
        x.start(0, NUMBER, 0);
        x.is("60", x.count(5), 60);
        x.is("the 60th", x.noted(59, 0), 58);
        x.is("no 61st", x.noted(60, 0), JobLoop.NONE);
        x.start(0, NUMBER, 70);
        x.is("131", x.count(5), 131);
        for (int k = 0; k < 60; k++) {
            x.is("noted(" + k + ")", x.noted(k, 0), k);
            x.is("sort", x.noted(k, 1), NUMBER);
            x.is("TURN", x.noted(k, 2), 0);
        }
        for (int what = 0; what < 3; what++) {
            x.is("the 61st is not kept", x.noted(60, what), JobLoop.NONE);
        }
        Probe y = countingDown("16: the last 60, at each length of the row");
        y.start(0, NUMBER, 59);
        for (int i = 60; i < 181; i++) {
            y.start(0, NUMBER, 0);
            if (i % 4 == 0) {
                y.is("the latest", y.noted(0, 0), 0);
                y.is("the 60th", y.noted(59, 0), Math.max(0, 118 - i));
            }
        }
    }

    private static void notedTurns() {
        Probe x = about("16: in which TURN (1, 2, ..; 0: before any, or behind a TURN the number of this)").with(1);
        x.steps(0, SHOW, 0).steps(1, CALL, 0, THROW, 0);
        x.start(0, NUMBER, 1);
        x.is("before any", x.noted(0, 2), 0);
        x.then(0, 0, 0);
        x.resolve(0, NUMBER, 2);
        x.start(0, NUMBER, 1);
        x.is("before any", x.noted(0, 2), 0);
        x.later(1, NUMBER, 3, 9);
        x.run(1);
        x.is("the TURN of a JOB", x.noted(0, 2), 1);
        x.run(0);
        x.start(0, NUMBER, 1);
        x.is("behind it", x.noted(0, 2), 1);
        x.run(60);
        x.is("the TURN of a TASK", x.noted(0, 2), 2);
        x.run(60);
        x.start(1, THENABLE, 2);
        x.is("behind it", x.noted(0, 2), 2);
        x.is("sort of X", x.noted(0, 1), THENABLE);
        int[] turns = {2, 2, 1, 1, 0, 0};
        for (int k = 0; k < 6; k++) {
            x.is("those before keep theirs", x.noted(k, 2), turns[k]);
        }
    }

    // ---- 17

    private static void count() {
        Probe x = about("17: BAD for others").with(1);
        for (int wrong : new int[] {-1, 8, LEAST, MOST}) {
            x.is("count(" + wrong + ")", x.count(wrong), BAD);
        }
        countsAtTheirMost();
        countOfLoose();
    }

    private static void countsAtTheirMost() {
        Probe x = about("17: each count at its most");
        x.steps(0, SHOW, 0, LESS, 0).steps(1, AWAIT, 0);
        for (int i = 0; i < 32; i++) {
            x.later(0, NUMBER, 90, 1000);
        }
        for (int i = 0; i < 5; i++) {
            x.item(NUMBER, i);
        }
        for (int i = 0; i < 50; i++) {
            x.start(1, NUMBER, i);
        }
        x.is("PROMISES", x.count(0), 100);
        x.is("JOBS", x.count(1), 50);
        x.is("TASKS", x.count(3), 32);
        x.is("ITEMS", x.count(7), 5);
        x.is("nothing NOTED yet", x.count(5), 0);
        x.is("run", x.run(60), 60);
        x.is("run", x.run(60), 22);
        x.is("TURNS", x.count(2), 82);
        x.is("TIME", x.count(4), 1000);
        x.is("NOTED, more than are kept", x.count(5), 32 * 91);
        x.is("TASKS", x.count(3), 0);
        x.is("JOBS", x.count(1), 0);
        x.is("PROMISES", x.count(0), 100);
    }

    private static void countOfLoose() {
        Probe x = about("17: 6: how many PROMISES are LOOSE").with(100);
        for (int p = 0; p < 100; p++) {
            x.reject(p, NUMBER, p);
            x.is("LOOSE", x.count(6), p + 1);
        }
        x.item(PROMISE, 99);
        x.item(PROMISE, 0);
        x.group(RACE);
        x.is("no room, so nobody waited", x.count(6), 100);
        x.is("forget", x.forget(), 100);
        x.is("none", x.count(6), 0);
    }

    // ---- 18

    private static void order() {
        goesOnBehindItsAwait();
        triesThatItHasThen();
        awaitOutOfSight();
    }

    /** FUNCTION 0 has so many NOTES and an AWAIT; it is STARTED, waits for PROMISE 0, and is emptied. */
    private static Probe stoppedAt(String sentence, int place) {
        Probe x = about(sentence).with(1);
        for (int i = 0; i < place; i++) {
            x.steps(0, NOTE, -1);
        }
        x.steps(0, AWAIT, 0);
        x.is("start", x.start(0, PROMISE, 0), 1);
        x.is("empty", x.empty(0), place + 1);
        return x;
    }

    private static void goesOnBehindItsAwait() {
        String sentence = "18: goes on at the STEP of the number behind that of its AWAIT, of those that it has then";
        for (int place = 0; place < 10; place++) {
            Probe x = stoppedAt(sentence, place);
            for (int i = 0; i < 10; i++) {
                x.steps(0, NOTE, 10 + i);
            }
            x.resolve(0, NUMBER, 5);
            x.run(1);
            x.is("NOTED before and behind it", x.count(5), 9);
            if (place < 9) {
                x.is("the first behind it", x.noted(8 - place, 0), 11 + place);
            }
            x.settled(1, FULFILLED, NUMBER, 0);
        }
        Probe y = about(sentence).with(1).steps(0, AWAIT, 0);
        y.start(0, PROMISE, 0);
        y.steps(0, SHOW, 0, GIVE, 0);
        y.resolve(0, NUMBER, 5);
        y.run(1);
        y.notes(5);
        y.settled(1, FULFILLED, NUMBER, 5);
        Probe z = stoppedAt(sentence, 2).steps(0, NOTE, 1, NOTE, 2, NOTE, 3);
        z.resolve(0, NUMBER, 5);
        z.run(1);
        z.notes(-1, -1);
        z.settled(1, FULFILLED, NUMBER, 0);
        Probe u = stoppedAt(sentence, 0).steps(0, GIVE, 0, AWAIT, 0, SHOW, 0, GIVE, 0);
        u.resolve(0, NUMBER, 6);
        u.run(1);
        u.is("it stops again", u.state(1, 7), 1);
        u.run(1);
        u.notes(6);
        u.settled(1, FULFILLED, NUMBER, 6);
    }

    private static void triesThatItHasThen() {
        String sentence = "18: the TRYs and ENDs that it has then count";
        Probe x = stoppedAt(sentence, 1).steps(0, TRY, 0, NOTE, 1, NOTE, 2, END, 0, SHOW, 0);
        rejectAndRun(x);
        x.notes(-1, 70);
        x.settled(1, FULFILLED, NUMBER, 0);
        Probe y = stoppedAt(sentence, 1).steps(0, NOTE, 1, TRY, 0, NOTE, 2, END, 0, SHOW, 0);
        rejectAndRun(y);
        y.notes(-1);
        y.settled(1, REJECTED, NUMBER, 70);
        Probe z = stoppedAt(sentence, 2).steps(0, NOTE, 1, TRY, 0, END, 0, SHOW, 0);
        rejectAndRun(z);
        z.settled(1, REJECTED, NUMBER, 70);
        Probe u = stoppedAt(sentence, 2).steps(0, TRY, 0, TRY, 0, END, 0, NOTE, 1, END, 0, SHOW, 0);
        rejectAndRun(u);
        u.notes(-1, -1, 70);
        Probe v = stoppedAt(sentence, 2).steps(0, TRY, 0, TRY, 0, NOTE, 1, NOTE, 2);
        rejectAndRun(v);
        v.settled(1, REJECTED, NUMBER, 70);
        Probe w = about(sentence).with(1).steps(0, TRY, 0, AWAIT, 0);
        w.start(0, PROMISE, 0);
        w.steps(0, NOTE, 1, END, 0, SHOW, 0);
        rejectAndRun(w);
        w.notes(70);
        Probe t = stoppedAt(sentence, 1).steps(0, TRY, 0, NOTE, 1, THROW, 0, END, 0, SHOW, 0);
        t.resolve(0, NUMBER, 9);
        t.run(1);
        t.notes(-1, 9);
    }

    private static void awaitOutOfSight() {
        String sentence = "18: a number behind its STEPS lies in no TRY";
        Probe x = stoppedAt(sentence, 2).steps(0, TRY, 0, END, 0);
        rejectAndRun(x);
        x.settled(1, REJECTED, NUMBER, 70);
        Probe y = stoppedAt(sentence, 9).steps(0, TRY, 0, NOTE, 1, END, 0, NOTE, 2);
        rejectAndRun(y);
        y.settled(1, REJECTED, NUMBER, 70);
        y.is("nothing NOTED", y.count(5), 9);
        Probe z = stoppedAt(sentence, 9).steps(0, TRY, 0, NOTE, 1, NOTE, 1, NOTE, 1, NOTE, 1, NOTE, 1, NOTE, 1,
            NOTE, 1, NOTE, 1, END, 0);
        rejectAndRun(z);
        z.settled(1, REJECTED, NUMBER, 70);
        Probe u = stoppedAt("18: the last but one lies in it", 8).steps(0, TRY, 0, NOTE, 1, NOTE, 1, NOTE, 1, NOTE, 1,
            NOTE, 1, NOTE, 1, NOTE, 1, NOTE, 1, END, 0);
        rejectAndRun(u);
        u.settled(1, FULFILLED, NUMBER, 0);
    }

    private static void rejectAndRun(Probe x) {
        x.reject(0, NUMBER, 70);
        x.is("run", x.run(60), 1);
        x.is("stopped no more", x.state(1, 7), 0);
    }

    private static void limits() {
        twoHundredSteps();
        eachStepBehindThem();
        whateverTheStepWouldThrow();
        oneTurnOrCall();
        awaitIsAStepOfItsOwnTurn();
        stepsTogether();
        doneAsSoonAsItsTurnBegins();
    }

    /** FUNCTION 0 does n + 1 times LESS, and then the STEPS. */
    private static Probe less(String sentence, int... whatAndN) {
        return about(sentence).steps(0, LESS, 0).steps(0, whatAndN);
    }

    private static void twoHundredSteps() {
        String sentence = "-4: what .. is the 201st STEP in one TURN (or one call from outside)";
        Probe x = less(sentence, GIVE, 0);
        x.settled(x.start(0, NUMBER, 198), FULFILLED, NUMBER, 0);
        x.settled(x.start(0, NUMBER, 199), REJECTED, NUMBER, -4);
        Probe y = less(sentence);
        y.settled(y.start(0, NUMBER, 199), FULFILLED, NUMBER, 0);
        y.settled(y.start(0, NUMBER, 200), REJECTED, NUMBER, -4);
        Probe z = less(sentence, NOTE, 1, NOTE, 2, NOTE, 3);
        z.settled(z.start(0, NUMBER, 197), REJECTED, NUMBER, -4);
        z.notes(1, 2);
        Probe u = less(sentence).with(1);
        u.then(0, 0, -1);
        u.then(0, 0, -1);
        u.resolve(0, NUMBER, 200);
        u.run(1);
        u.settled(1, REJECTED, NUMBER, -4);
        u.run(1);
        u.settled(2, REJECTED, NUMBER, -4);
    }

    private static void eachStepBehindThem() {
        String sentence = "18: Each STEP behind the 200th .. THROWS -4, not the 201st alone";
        Probe x = less(sentence, TRY, 0, NOTE, 1, END, 0, TRY, 0, NOTE, 2, END, 0, NOTE, 3);
        x.settled(x.start(0, NUMBER, 198), REJECTED, NUMBER, -4);
        x.notes();
        Probe y = less(sentence, TRY, 0, TRY, 0, NOTE, 1, END, 0, NOTE, 2, END, 0);
        y.settled(y.start(0, NUMBER, 197), FULFILLED, NUMBER, 0);
        y.notes();
        Probe z = about(sentence).steps(0, TRY, 0, CALL, 1, END, 0).steps(1, LESS, 0, NOTE, 1);
        z.settled(z.start(0, NUMBER, 400), REJECTED, NUMBER, -4);
        z.settled(1, REJECTED, NUMBER, -4);
        z.notes();
        Probe u = about(sentence).steps(0, TRY, 0, CALL, 1, END, 0).steps(1, LESS, 0, NOTE, 1);
        u.settled(u.start(0, NUMBER, 195), FULFILLED, NUMBER, 0);
        u.settled(1, FULFILLED, NUMBER, 0);
        u.notes(1);
        Probe v = about(sentence).steps(0, TRY, 0, CALL, 1, NOTE, 5, END, 0).steps(1, LESS, 0, NOTE, 1);
        v.settled(v.start(0, NUMBER, 196), FULFILLED, NUMBER, 0);
        v.settled(1, FULFILLED, NUMBER, 0);
        v.notes(1);
    }

    /** Each kind of STEP as the 201st, with an X and a number for which it would THROW something else, if it could. */
    private static void whateverTheStepWouldThrow() {
        for (int what = 0; what < 15; what++) {
            Probe x = about("18: Each STEP behind the 200th THROWS -4 (and does nothing), STEP " + what).with(1);
            x.steps(0, LESS, 0).step(0, what, PROMISE, what == RESOLVE || what == REJECT || what == SET ? 50 : 0);
            x.then(0, 0, -1);
            x.resolve(0, NUMBER, 199);
            x.run(1);
            x.settled(1, REJECTED, NUMBER, -4);
            x.is("PROMISES", x.count(0), 2);
            x.is("TASKS", x.count(3), 0);
            x.notes();
        }
        Probe y = about("18: THROW behind the 200th THROWS -4, not X").steps(0, LESS, 0, THROW, 0);
        y.settled(y.start(0, NUMBER, 198), REJECTED, NUMBER, 0);
        y.settled(y.start(0, NUMBER, 199), REJECTED, NUMBER, -4);
    }

    private static void oneTurnOrCall() {
        Probe x = less("in one TURN (or one call from outside)", SHOW, 0).with(1);
        for (int i = 0; i < 3; i++) {
            x.settled(x.start(0, NUMBER, 198), FULFILLED, NUMBER, 0);
            x.then(0, 0, -1);
            x.later(0, NUMBER, 198, 0);
        }
        x.resolve(0, NUMBER, 198);
        x.is("six TURNS in one call", x.run(60), 6);
        x.notes(0, 0, 0, 0, 0, 0, 0, 0, 0);
        x.is("none is LOOSE", x.count(6), 0);
        Probe y = about("in one TURN: one that goes on").with(1).steps(0, LESS, 0, AWAIT, 0, LESS, 2, SHOW, 0);
        y.start(0, NUMBER, 198);
        y.is("stopped by the 200th", y.state(1, 7), 1);
        y.empty(0);
        y.steps(0, NOTE, 0, SET, 198, LESS, 2, SHOW, 0);
        y.run(1);
        y.notes(0);
        y.settled(1, FULFILLED, NUMBER, 0);
    }

    private static void awaitIsAStepOfItsOwnTurn() {
        String sentence = "in one TURN: the AWAIT is a STEP of the TURN in which it stops alone";
        Probe x = about(sentence).with(2).steps(0, AWAIT, 0, LESS, 1);
        x.start(0, PROMISE, 0);
        x.start(0, PROMISE, 1);
        x.resolve(0, NUMBER, 199);
        x.resolve(1, NUMBER, 200);
        x.run(60);
        x.settled(2, FULFILLED, NUMBER, 0);
        x.settled(3, REJECTED, NUMBER, -4);
        Probe y = about(sentence).with(2).steps(0, TRY, 0, AWAIT, 0, END, 0, LESS, 3);
        y.start(0, PROMISE, 0);
        y.start(0, PROMISE, 1);
        y.reject(0, NUMBER, 199);
        y.reject(1, NUMBER, 200);
        y.run(60);
        y.settled(2, FULFILLED, NUMBER, 0);
        y.settled(3, REJECTED, NUMBER, -4);
    }

    private static void stepsTogether() {
        Probe x = about("in one TURN: the STEPS of all that run in it").steps(0, CALL, 1, CALL, 1, NOTE, 9);
        x.steps(1, SET, 96, LESS, 1, NOTE, 1);
        x.settled(x.start(0, NUMBER, 0), REJECTED, NUMBER, -4);
        x.settled(1, FULFILLED, NUMBER, 0);
        x.settled(2, FULFILLED, NUMBER, 0);
        x.notes(1, 1);
        Probe y = about("in one TURN: the STEPS of all that run in it").steps(0, CALL, 1, CALL, 1);
        y.steps(1, SET, 96, LESS, 1, NOTE, 1);
        y.settled(y.start(0, NUMBER, 0), FULFILLED, NUMBER, 0);
        y.notes(1, 1);
    }

    private static void doneAsSoonAsItsTurnBegins() {
        Probe x = about("18: A TASK is done, and no longer counts, as soon as its TURN begins");
        x.steps(0, TRY, 0, LATER, 1, LATER, 1, END, 0, SHOW, 0).steps(1, SHOW, 0);
        x.is("later", x.later(0, NUMBER, 50, 0), 1);
        for (int i = 2; i <= 32; i++) {
            x.is("later", x.later(1, NUMBER, i, 1000), i);
        }
        x.run(1);
        x.shown(NUMBER, -4);
        x.is("one came for it", x.count(3), 32);
        x.run(1);
        x.shown(NUMBER, 50);
        x.is("TIME", x.count(4), 5);
        x.is("TASKS", x.count(3), 31);
        x.is("the others are there", x.run(60), 31);
        x.latest(30, 31, 32);
    }
}
