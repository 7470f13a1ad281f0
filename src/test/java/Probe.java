/**
 * A JobLoop at which one sentence of the document is looked: each answer that is not due is told
 * with that sentence. It counts the calls, as nothing is promised behind the 512th.
 */
final class Probe implements Words {
    private static final int MOST_CALLS = 512;

    private final JobLoop x = new JobLoop();
    private final Due due;
    private final String sentence;
    private int calls = 0;

    Probe(Due due, String sentence) {
        this.due = due;
        this.sentence = sentence;
    }

    private JobLoop called() {
        calls++;
        if (calls > MOST_CALLS) {
            is("calls", calls, MOST_CALLS);
        }
        return x;
    }

    // ---- the face

    int promise() {
        return called().promise();
    }

    boolean resolve(int p, int sort, int n) {
        return called().resolve(p, sort, n);
    }

    boolean reject(int p, int sort, int n) {
        return called().reject(p, sort, n);
    }

    int then(int p, int f, int g) {
        return called().then(p, f, g);
    }

    boolean thenable(int t, int kind, int uSort, int u, int wSort, int w) {
        return called().thenable(t, kind, uSort, u, wSort, w);
    }

    int step(int f, int what, int sort, int n) {
        return called().step(f, what, sort, n);
    }

    int empty(int f) {
        return called().empty(f);
    }

    int start(int f, int sort, int n) {
        return called().start(f, sort, n);
    }

    int later(int f, int sort, int n, int time) {
        return called().later(f, sort, n, time);
    }

    int item(int sort, int n) {
        return called().item(sort, n);
    }

    int group(int kind) {
        return called().group(kind);
    }

    int run(int n) {
        return called().run(n);
    }

    int forget() {
        return called().forget();
    }

    int state(int p, int what) {
        return called().state(p, what);
    }

    long noted(int k, int what) {
        return called().noted(k, what);
    }

    int count(int what) {
        return called().count(what);
    }

    // ---- what the tests need again and again

    void is(String call, long got, long want) {
        due.is(sentence + ": " + call, got, want);
    }

    void is(String call, boolean got, boolean want) {
        due.is(sentence + ": " + call, got, want);
    }

    /** The same object, with so many more PROMISES. */
    Probe with(int promises) {
        for (int i = 0; i < promises; i++) {
            is("promise()", promise() >= 0, true);
        }
        return this;
    }

    /** The same object; FUNCTION f has these STEPS more, each with the NUMBER behind it. */
    Probe steps(int f, int... whatAndN) {
        for (int i = 0; i < whatAndN.length; i += 2) {
            is("step " + whatAndN[i], step(f, whatAndN[i], NUMBER, whatAndN[i + 1]) > 0, true);
        }
        return this;
    }

    /** The same object; FUNCTION f has one STEP more: SET to this VALUE. */
    Probe sets(int f, int sort, int n) {
        is("step SET", step(f, SET, sort, n) > 0, true);
        return this;
    }

    void settled(int p, int how, int sort, int n) {
        is("state(" + p + ", 0)", state(p, 0), how);
        is("state(" + p + ", 1)", state(p, 1), sort);
        is("state(" + p + ", 2)", state(p, 2), n);
    }

    void pending(int p) {
        is("state(" + p + ", 0)", state(p, 0), PENDING);
    }

    void key(int p, int last, boolean used) {
        is("state(" + p + ", 5)", state(p, 5), last);
        is("state(" + p + ", 6)", state(p, 6), used ? 1 : 0);
    }

    /** All that was NOTED, as numbers, the oldest first. */
    void notes(long... want) {
        is("count(5)", count(5), want.length);
        latest(want);
    }

    /** What was NOTED at last, as numbers, the latest at the end. */
    void latest(long... want) {
        for (int i = 0; i < want.length; i++) {
            int k = want.length - 1 - i;
            is("noted(" + k + ", 0)", noted(k, 0), want[i]);
        }
    }

    /** X, as a SHOW left it. */
    void shown(int sort, int n) {
        is("noted(0, 0)", noted(0, 0), n);
        is("noted(0, 1)", noted(0, 1), sort);
    }

    /** What can be looked at of the object, the first and the last two PROMISES among it. */
    String seen() {
        StringBuilder text = new StringBuilder();
        for (int what = 0; what < 8; what++) {
            text.append("count ").append(count(what)).append(' ');
        }
        int made = count(0);
        for (int p = 0; p < made; p = p == 1 && made > 4 ? made - 2 : p + 1) {
            text.append("promise ").append(p);
            for (int what = 0; what < 8; what++) {
                text.append(' ').append(state(p, what));
            }
        }
        for (int what = 0; what < 3; what++) {
            text.append(" noted ").append(noted(0, what)).append(' ').append(noted(1, what));
        }
        return text.toString();
    }

    /** Nothing that can be looked at has changed since. */
    void same(String before) {
        String now = seen();
        is("nothing changes: " + before + " / " + now, now.equals(before), true);
    }
}
