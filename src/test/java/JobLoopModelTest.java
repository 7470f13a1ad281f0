/**
 * Long mixed runs of calls on JobLoop and JobLoopModel at once; each answer must be the same.
 * The calls come from a row of numbers that is the same each time.
 */
public final class JobLoopModelTest {
    private static final int RUNS = 12000, CALLS = 512, MOST_SHOWN = 20;
    private static final int[] EDGES = {
        -2, -1, 0, 1, 2, 3, 4, 5, 9, 10, 11, 14, 15, 31, 32, 59, 60, 61, 99, 100, 101, 1000, 1001,
        Integer.MIN_VALUE, Integer.MAX_VALUE
    };

    private final Due due;
    private final int number;
    private final JobLoop x = new JobLoop();
    private final JobLoopModel y = new JobLoopModel();
    private long seed;

    private JobLoopModelTest(Due due, int number) {
        this.due = due;
        this.number = number;
        seed = number * 7919L + 17;
    }

    public static void main(String[] args) {
        Due due = new Due("JobLoopModelTest");
        for (int number = 0; number < RUNS && due.wrong() < MOST_SHOWN; number++) {
            new JobLoopModelTest(due, number).calls();
        }
        due.close();
    }

    private int below(int bound) {
        seed = seed * 6364136223846793005L + 1442695040888963407L;
        return (int) ((seed >>> 33) % bound);
    }

    private void same(String call, long got, long want) {
        due.is("run " + number + ": " + call, got, want);
    }

    private void same(String call, boolean got, boolean want) {
        due.is("run " + number + ": " + call, got, want);
    }

    /** Every fourth run begins where there is hardly any room left. */
    private void calls() {
        int made = 0;
        if (number % 4 == 3) {
            for (int many = 80 + below(21); made < many; made++) {
                same("promise()", x.promise(), y.promise());
            }
        }
        for (; made < CALLS; made++) {
            if (below(5) < 2) {
                look();
            } else {
                change(below(100));
            }
        }
    }

    /** Mostly a number that is allowed, now and then any other. */
    private int number(int bound) {
        return below(40) == 0 ? EDGES[below(EDGES.length)] : below(bound);
    }

    private int promise() {
        int made = y.count(0);
        int near = below(3) == 0 ? Math.max(0, made - 4) : 0;
        return number(40) < 0 || made == 0 ? below(4) - 1 : near + number(Math.max(1, made - near));
    }

    private int sort() {
        return below(2) == 0 ? 0 : number(3);
    }

    private int of(int sort) {
        switch (sort) {
            case 1: return promise();
            case 2: return number(4);
            default: return below(3) == 0 ? EDGES[below(EDGES.length)] : below(6);
        }
    }

    private int function() {
        return number(below(2) == 0 ? 3 : 10);
    }

    private void change(int choice) {
        int sort = sort();
        int n = of(sort);
        int f = function();
        int p = promise();
        if (choice < 4) {
            same("promise()", x.promise(), y.promise());
        } else if (choice < 13) {
            same("resolve(" + p + ", " + sort + ", " + n + ")", x.resolve(p, sort, n), y.resolve(p, sort, n));
        } else if (choice < 18) {
            same("reject(" + p + ", " + sort + ", " + n + ")", x.reject(p, sort, n), y.reject(p, sort, n));
        } else if (choice < 25) {
            int g = function() - 1;
            same("then(" + p + ", " + (f - 1) + ", " + g + ")", x.then(p, f - 1, g), y.then(p, f - 1, g));
        } else if (choice < 29) {
            thenable(sort, n);
        } else if (choice < 55) {
            step(f);
        } else if (choice < 57) {
            same("empty(" + f + ")", x.empty(f), y.empty(f));
        } else if (choice < 67) {
            same("start(" + f + ", " + sort + ", " + n + ")", x.start(f, sort, n), y.start(f, sort, n));
        } else if (choice < 72) {
            int time = number(below(2) == 0 ? 4 : 1001);
            same("later(" + f + ", " + sort + ", " + n + ", " + time + ")",
                x.later(f, sort, n, time), y.later(f, sort, n, time));
        } else if (choice < 80) {
            same("item(" + sort + ", " + n + ")", x.item(sort, n), y.item(sort, n));
        } else if (choice < 86) {
            int kind = number(4);
            same("group(" + kind + ")", x.group(kind), y.group(kind));
        } else if (choice < 99 || below(3) > 0) {
            int turns = number(below(3) == 0 ? 61 : 4);
            same("run(" + turns + ")", x.run(turns), y.run(turns));
        } else {
            same("forget()", x.forget(), y.forget());
        }
    }

    private void thenable(int uSort, int u) {
        int t = number(4);
        int kind = number(4);
        int wSort = sort();
        int w = of(wSort);
        same("thenable(" + t + ", " + kind + ", " + uSort + ", " + u + ", " + wSort + ", " + w + ")",
            x.thenable(t, kind, uSort, u, wSort, w), y.thenable(t, kind, uSort, u, wSort, w));
    }

    private void step(int f) {
        int what = number(15);
        int sort = sort();
        int n;
        switch (what) {
            case 8: case 11: case 12: n = function(); break;
            case 9: case 10: n = promise(); break;
            case 13: case 14: n = number(11); break;
            default: n = of(sort); break;
        }
        same("step(" + f + ", " + what + ", " + sort + ", " + n + ")",
            x.step(f, what, sort, n), y.step(f, what, sort, n));
    }

    private void look() {
        int what = number(8);
        switch (below(4)) {
            case 0:
                same("count(" + what + ")", x.count(what), y.count(what));
                break;
            case 1:
                int k = number(below(2) == 0 ? 4 : 62);
                same("noted(" + k + ", " + what % 4 + ")", x.noted(k, what % 4), y.noted(k, what % 4));
                break;
            default:
                int p = promise();
                same("state(" + p + ", " + what + ")", x.state(p, what), y.state(p, what));
                break;
        }
    }
}
