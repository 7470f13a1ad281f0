import java.util.ArrayDeque;
import java.util.ArrayList;
import java.util.Arrays;
import java.util.List;

/**
 * The document written a second time, in another way than JobLoop: objects, lists and recursion,
 * REACTIONS as pieces of code. It serves as what is due in JobLoopModelTest.
 */
final class JobLoopModel {
    private record Value(int sort, int n) {
        boolean isNumber() {
            return sort == 0;
        }

        boolean isPromise() {
            return sort == 1;
        }
    }

    private interface Reaction {
        void settled(boolean fulfilled, Value value);
    }

    private interface Thenable {
        void adoptBy(Promise p, int key);
    }

    private static final class Promise {
        int number;
        int status = 0;
        Value value = null;
        int key = 0;
        boolean used = false;
        boolean waited = false;
        boolean stopped = false;
        final List<Reaction> reactions = new ArrayList<>();
    }

    private record Step(int what, int sort, int n) { }

    private record Task(int f, Value value, int due) { }

    private record Note(Value value, int turn) { }

    /** One FUNCTION that runs, or is stopped; own is null where it is DONE. */
    private static final class Activation {
        int f;
        int next = 0;
        Value x;
        Promise own;
    }

    private static final class Thrown extends Exception {
        private static final long serialVersionUID = 1L;
        final transient Value value;

        Thrown(Value value) {
            super(null, null, false, false);
            this.value = value;
        }
    }

    private final List<List<Step>> functions = new ArrayList<>();
    private List<Promise> promises;
    private ArrayDeque<Runnable> jobs;
    private List<Task> tasks;
    private List<Note> notes;
    private List<Value> items;
    private Thenable[] thenables;
    private int turns;
    private int time;
    private int steps;

    JobLoopModel() {
        for (int f = 0; f < 10; f++) {
            functions.add(new ArrayList<>());
        }
        reset();
    }

    private void reset() {
        promises = new ArrayList<>();
        jobs = new ArrayDeque<>();
        tasks = new ArrayList<>();
        notes = new ArrayList<>();
        items = new ArrayList<>();
        thenables = new Thenable[4];
        Arrays.fill(thenables, (Thenable) (p, key) -> { });
        turns = 0;
        time = 0;
    }

    // ---- PROMISES

    private Promise make() {
        Promise p = new Promise();
        p.number = promises.size();
        promises.add(p);
        return p;
    }

    private Value valueOf(Promise p) {
        return new Value(1, p.number);
    }

    private void resolveBy(Promise p, Value v, int key) {
        if (p.key != key || p.used) {
            return;
        }
        p.used = true;
        if (v.equals(valueOf(p))) {
            settle(p, 2, new Value(0, -1));
        } else if (v.isNumber()) {
            settle(p, 1, v);
        } else {
            jobs.add(() -> adopt(p, v));
        }
    }

    private void rejectBy(Promise p, Value v, int key) {
        if (p.key == key && !p.used) {
            p.used = true;
            settle(p, 2, v);
        }
    }

    private void settle(Promise p, int status, Value v) {
        p.status = status;
        p.value = v;
        for (Reaction r : p.reactions) {
            jobs.add(() -> r.settled(status == 1, v));
        }
        p.reactions.clear();
    }

    private void waitFor(Promise p, Reaction r) {
        p.waited = true;
        if (p.status == 0) {
            p.reactions.add(r);
        } else {
            jobs.add(() -> r.settled(p.status == 1, p.value));
        }
    }

    private void adopt(Promise p, Value v) {
        int key = ++p.key;
        p.used = false;
        if (v.isPromise()) {
            waitFor(promises.get(v.n), (fulfilled, w) -> follow(p, fulfilled, w, key));
        } else {
            thenables[v.n].adoptBy(p, key);
        }
    }

    private void follow(Promise p, boolean fulfilled, Value v, int key) {
        if (fulfilled) {
            resolveBy(p, v, key);
        } else {
            rejectBy(p, v, key);
        }
    }

    private Promise handled(Promise p, int f, int g) {
        Promise d = make();
        waitFor(p, (fulfilled, v) -> {
            int h = fulfilled ? f : g;
            if (h < 0) {
                follow(d, fulfilled, v, 0);
                return;
            }
            try {
                resolveBy(d, done(h, v), 0);
            } catch (Thrown t) {
                rejectBy(d, t.value, 0);
            }
        });
        return d;
    }

    // ---- FUNCTIONS

    private Value done(int f, Value v) throws Thrown {
        Activation a = new Activation();
        a.f = f;
        a.x = v;
        return goOn(a);
    }

    private Promise started(int f, Value v) {
        Activation a = new Activation();
        a.f = f;
        a.x = v;
        a.own = make();
        goOnStarted(a);
        return a.own;
    }

    private void goOnStarted(Activation a) {
        try {
            Value given = goOn(a);
            if (given != null) {
                resolveBy(a.own, given, 0);
            }
        } catch (Thrown t) {
            rejectBy(a.own, t.value, 0);
        }
    }

    /** What it GIVES, or null where it stops. */
    private Value goOn(Activation a) throws Thrown {
        while (a.next < functions.get(a.f).size()) {
            int i = a.next++;
            Step s = functions.get(a.f).get(i);
            try {
                steps++;
                if (steps > 200) {
                    throw new Thrown(new Value(0, -4));
                }
                if (s.what == 3) {
                    return a.x;
                }
                if (s.what == 5) {
                    await(a, i);
                    return null;
                }
                act(a, s);
            } catch (Thrown t) {
                caught(a, i, t);
            }
        }
        return new Value(0, 0);
    }

    private void caught(Activation a, int i, Thrown t) throws Thrown {
        int[] ends = endsOfTries(functions.get(a.f));
        for (int j = Math.min(i, ends.length) - 1; j >= 0; j--) {
            if (ends[j] > i) {
                a.x = t.value;
                a.next = ends[j] + 1;
                return;
            }
        }
        throw t;
    }

    /** For each STEP that is a TRY the number of its END; -1 for all others. */
    private static int[] endsOfTries(List<Step> steps) {
        int[] ends = new int[steps.size()];
        ArrayDeque<Integer> open = new ArrayDeque<>();
        for (int i = 0; i < ends.length; i++) {
            ends[i] = -1;
            if (steps.get(i).what == 6) {
                open.push(i);
            } else if (steps.get(i).what == 7 && !open.isEmpty()) {
                ends[open.pop()] = i;
            }
        }
        return ends;
    }

    private void await(Activation a, int i) throws Thrown {
        if (a.own == null) {
            throw new Thrown(new Value(0, -2));
        }
        Promise p;
        if (a.x.isPromise()) {
            p = promises.get(a.x.n);
        } else {
            needRoom(promises.size() < 100);
            p = make();
            resolveBy(p, a.x, 0);
        }
        a.own.stopped = true;
        waitFor(p, (fulfilled, v) -> {
            a.own.stopped = false;
            a.x = v;
            try {
                if (!fulfilled) {
                    caught(a, i, new Thrown(v));
                }
                goOnStarted(a);
            } catch (Thrown t) {
                rejectBy(a.own, t.value, 0);
            }
        });
    }

    private static void needRoom(boolean there) throws Thrown {
        if (!there) {
            throw new Thrown(new Value(0, -4));
        }
    }

    private static void needPromise(boolean there) throws Thrown {
        if (!there) {
            throw new Thrown(new Value(0, -3));
        }
    }

    private void act(Activation a, Step s) throws Thrown {
        switch (s.what) {
            case 0 -> notes.add(new Note(new Value(0, s.n), turns));
            case 1 -> notes.add(new Note(a.x, turns));
            case 2 -> {
                needPromise(s.sort != 1 || s.n < promises.size());
                a.x = new Value(s.sort, s.n);
            }
            case 4 -> throw new Thrown(a.x);
            case 8 -> {
                needRoom(promises.size() < 100);
                a.x = valueOf(started(s.n, a.x));
            }
            case 9 -> {
                needPromise(s.n < promises.size());
                resolveBy(promises.get(s.n), a.x, 0);
            }
            case 10 -> {
                needPromise(s.n < promises.size());
                rejectBy(promises.get(s.n), a.x, 0);
            }
            case 11 -> {
                needPromise(a.x.isPromise());
                needRoom(promises.size() < 100);
                a.x = valueOf(handled(promises.get(a.x.n), s.n, -1));
            }
            case 12 -> {
                needRoom(tasks.size() < 32);
                tasks.add(new Task(s.n, a.x, time + 5));
            }
            case 13 -> {
                if (a.x.isNumber() && a.x.n == 0) {
                    a.next = s.n;
                }
            }
            case 14 -> {
                if (a.x.isNumber() && a.x.n > 0) {
                    a.x = new Value(0, a.x.n - 1);
                    a.next = s.n;
                }
            }
            default -> { }
        }
    }

    // ---- GROUPS

    private Promise grouped(int kind, List<Value> values) {
        Promise d = make();
        Boolean[] how = new Boolean[values.size()];
        int[] numbers = new int[values.size()];
        for (int i = 0; i < how.length; i++) {
            Promise p;
            if (values.get(i).isPromise()) {
                p = promises.get(values.get(i).n);
            } else {
                p = make();
                resolveBy(p, values.get(i), 0);
            }
            int place = i;
            waitFor(p, (fulfilled, v) -> {
                how[place] = fulfilled;
                numbers[place] = v.n;
                if (kind == 1 || (fulfilled ? kind == 3 : kind == 0)) {
                    follow(d, fulfilled, v, 0);
                }
                decide(d, kind, how, numbers);
            });
        }
        decide(d, kind, how, numbers);
        return d;
    }

    private void decide(Promise d, int kind, Boolean[] how, int[] numbers) {
        List<Boolean> all = Arrays.asList(how);
        if (kind == 0 && !all.contains(null) && !all.contains(false)) {
            int sum = 0;
            for (int i = 0; i < how.length; i++) {
                sum += numbers[i] * (i + 1);
            }
            resolveBy(d, new Value(0, sum), 0);
        }
        if (kind == 2 && !all.contains(null)) {
            int sum = 0;
            for (int i = 0; i < how.length; i++) {
                sum += how[i] ? i + 1 : 0;
            }
            resolveBy(d, new Value(0, sum), 0);
        }
        if (kind == 3 && !all.contains(null) && !all.contains(true)) {
            rejectBy(d, new Value(0, -5), 0);
        }
    }

    // ---- the face

    private boolean has(int p) {
        return p >= 0 && p < promises.size();
    }

    private boolean isValue(int sort, int n) {
        return sort == 0 || sort == 1 && has(n) || sort == 2 && n >= 0 && n < 4;
    }

    private static boolean isFunction(int f) {
        return f >= 0 && f < 10;
    }

    int promise() {
        return promises.size() == 100 ? -2 : make().number;
    }

    boolean resolve(int p, int sort, int n) {
        boolean fine = has(p) && isValue(sort, n);
        if (fine) {
            resolveBy(promises.get(p), new Value(sort, n), 0);
        }
        return fine;
    }

    boolean reject(int p, int sort, int n) {
        boolean fine = has(p) && isValue(sort, n);
        if (fine) {
            rejectBy(promises.get(p), new Value(sort, n), 0);
        }
        return fine;
    }

    int then(int p, int f, int g) {
        if (!has(p) || f < -1 || f > 9 || g < -1 || g > 9) {
            return -1;
        }
        return promises.size() == 100 ? -2 : handled(promises.get(p), f, g).number;
    }

    boolean thenable(int t, int kind, int uSort, int u, int wSort, int w) {
        if (t < 0 || t > 3 || !isValue(uSort, u) || !isValue(wSort, w)) {
            return false;
        }
        Value first = new Value(uSort, u);
        Value second = new Value(wSort, w);
        switch (kind) {
            case 0 -> thenables[t] = (p, key) -> resolveBy(p, first, key);
            case 1 -> thenables[t] = (p, key) -> rejectBy(p, first, key);
            case 2 -> thenables[t] = (p, key) -> {
                resolveBy(p, first, key);
                rejectBy(p, second, key);
            };
            case 3 -> thenables[t] = (p, key) -> { };
            default -> {
                return false;
            }
        }
        return true;
    }

    int step(int f, int what, int sort, int n) {
        boolean fine = switch (what) {
            case 2 -> sort == 0 || sort == 1 && n >= 0 && n < 100 || sort == 2 && n >= 0 && n < 4;
            case 8, 11, 12 -> isFunction(n);
            case 13, 14 -> n >= 0 && n <= 10;
            case 9, 10 -> n >= 0 && n < 100;
            default -> what >= 0 && what < 15;
        };
        if (!fine || !isFunction(f)) {
            return -1;
        }
        if (functions.get(f).size() == 10) {
            return -2;
        }
        functions.get(f).add(new Step(what, sort, n));
        return functions.get(f).size();
    }

    int empty(int f) {
        if (!isFunction(f)) {
            return -1;
        }
        int many = functions.get(f).size();
        functions.get(f).clear();
        return many;
    }

    int start(int f, int sort, int n) {
        if (!isFunction(f) || !isValue(sort, n)) {
            return -1;
        }
        if (promises.size() == 100) {
            return -2;
        }
        steps = 0;
        return started(f, new Value(sort, n)).number;
    }

    int later(int f, int sort, int n, int in) {
        if (!isFunction(f) || !isValue(sort, n) || in < 0 || in > 1000) {
            return -1;
        }
        if (tasks.size() == 32) {
            return -2;
        }
        tasks.add(new Task(f, new Value(sort, n), time + in));
        return tasks.size();
    }

    int item(int sort, int n) {
        if (!isValue(sort, n)) {
            return -1;
        }
        if (items.size() == 5) {
            return -2;
        }
        items.add(new Value(sort, n));
        return items.size();
    }

    int group(int kind) {
        if (kind < 0 || kind > 3) {
            return -1;
        }
        long others = items.stream().filter(v -> !v.isPromise()).count();
        if (promises.size() + 1 + others > 100) {
            return -2;
        }
        List<Value> values = items;
        items = new ArrayList<>();
        return grouped(kind, values).number;
    }

    int run(int n) {
        if (n < 0 || n > 60) {
            return -1;
        }
        for (int i = 0; i < n; i++) {
            if (!turn()) {
                return i;
            }
        }
        return n;
    }

    private boolean turn() {
        if (jobs.isEmpty() && tasks.isEmpty()) {
            return false;
        }
        turns++;
        steps = 0;
        if (!jobs.isEmpty()) {
            jobs.poll().run();
            return true;
        }
        Task first = tasks.get(0);
        for (Task t : tasks) {
            first = t.due < first.due ? t : first;
        }
        Task next = first;
        tasks.removeIf(t -> t == next);
        time = Math.max(time, next.due);
        try {
            done(next.f, next.value);
        } catch (Thrown lost) {
            return true;
        }
        return true;
    }

    int forget() {
        int made = promises.size();
        reset();
        return made;
    }

    int state(int p, int what) {
        if (!has(p)) {
            return -1;
        }
        Promise q = promises.get(p);
        return switch (what) {
            case 0 -> q.status;
            case 1 -> q.value == null ? -1 : q.value.sort;
            case 2 -> q.value == null ? -1 : q.value.n;
            case 3 -> isLoose(q) ? 1 : 0;
            case 4 -> q.reactions.size();
            case 5 -> q.key;
            case 6 -> q.used ? 1 : 0;
            case 7 -> q.stopped ? 1 : 0;
            default -> -1;
        };
    }

    private static boolean isLoose(Promise p) {
        return p.status == 2 && !p.waited;
    }

    long noted(int k, int what) {
        if (k < 0 || k >= 60 || k >= notes.size() || what < 0 || what > 2) {
            return 1L << 40;
        }
        Note note = notes.get(notes.size() - 1 - k);
        return what == 0 ? note.value.n : what == 1 ? note.value.sort : note.turn;
    }

    int count(int what) {
        return switch (what) {
            case 0 -> promises.size();
            case 1 -> jobs.size();
            case 2 -> turns;
            case 3 -> tasks.size();
            case 4 -> time;
            case 5 -> notes.size();
            case 6 -> (int) promises.stream().filter(JobLoopModel::isLoose).count();
            case 7 -> items.size();
            default -> -1;
        };
    }
}
