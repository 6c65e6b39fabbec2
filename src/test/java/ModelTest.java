/** All promises: long runs of calls, drawn from fixed seeds, are compared with the model call by call. */
final class ModelTest {
    private static final Due DUE = new Due();
    /** No object is used for more than 512 calls; a round of them has at most 20. */
    private static final int RUNS = 400, MOST_CALLS = 512, MOST_IN_ROUND = 20;
    private static final int[] EDGES = {-1, 0, 1, 2, 3, 5, 6, 7, 8, 9, 10, 20, 99, 100, 997, 1000, 1001, Integer.MIN_VALUE,
        Integer.MAX_VALUE};

    private final RiverWords words = new RiverWords();
    private final Model model = new Model();
    private final int run;
    private long state;
    private int calls;

    private ModelTest(int run) {
        this.run = run;
        this.state = 1000003L * run + 17;
    }

    public static void main(String[] args) {
        for (int run = 0; run < RUNS; run++) {
            new ModelTest(run).compareRun();
        }
        DUE.finish("ModelTest");
    }

    /** A number from 0 to bound - 1. */
    private int pick(int bound) {
        state = state * 6364136223846793005L + 1442695040888963407L;
        return (int) ((state >>> 33) % bound);
    }

    /** Mostly a number from low to high, now and then an edge. */
    private int number(int low, int high) {
        return pick(20) == 0 ? EDGES[pick(EDGES.length)] : low + pick(high - low + 1);
    }

    private int roadNumber() {
        int roads = model.count(0);
        return roads == 0 ? number(0, 1) : number(0, roads - 1);
    }

    private int cycleNumber() {
        return number(0, Math.max(0, model.count(6) - 1));
    }

    private void compareRun() {
        if (run % 2 == 0) {
            river();
        }
        while (calls + MOST_IN_ROUND < MOST_CALLS) {
            int kind = pick(29);
            if (kind < 5) {
                page(kind);
            } else if (kind < 12) {
                told(kind);
            } else if (kind < 18) {
                changed(kind);
            } else if (kind < 26) {
                river(kind);
            } else {
                totals(kind);
            }
        }
        while (calls + 1 < MOST_CALLS) {
            compare("count(0)", words.count(0), model.count(0));
        }
        // The last of the 512 calls.
        compare("digest()", words.digest(), model.digest());
    }

    private void compare(String call, long got, long want) {
        calls++;
        DUE.due("run " + run + ": " + call, got, want);
        if (calls > MOST_CALLS) {
            throw new IllegalStateException("too many calls for one object");
        }
    }

    private void page(int kind) {
        if (kind < 3) {
            int letters = 1 + pick(8);
            for (int i = 0; i < letters; i++) {
                int code = pick(60) == 0 ? number(30, 128) : "LRLRLRLRLR2345678912".charAt(pick(20));
                compare("letter(" + code + ")", words.letter(code), model.letter(code));
                compare("fault()", words.fault(), model.fault());
            }
        }
        if (kind == 3 && pick(3) == 0) {
            compare("blank()", words.blank(), model.blank());
        }
        compare("fault()", words.fault(), model.fault());
        int want = model.word();
        compare("word()", words.word(), want);
        if (want == Due.STATE && pick(2) == 0) {
            compare("blank()", words.blank(), model.blank());
        }
    }

    private void told(int kind) {
        int road = roadNumber();
        int other = roadNumber();
        int what = number(0, 9);
        compare("road(" + road + ", " + what + ")", words.road(road, what), model.road(road, what));
        compare("sign(" + road + ", " + what + ")", words.sign(road, what), model.sign(road, what));
        compare("table(" + road + ", " + what + ")", words.table(road, what % 5), model.table(road, what % 5));
        compare("form(" + road + ", " + what + ")", words.form(road, what % 6), model.form(road, what % 6));
        compare("end(" + road + ", " + what + ")", words.end(road, what % 3), model.end(road, what % 3));
        compare("alike(" + road + ", " + other + ")", words.alike(road, other), model.alike(road, other));
        compare("cross(" + road + ", " + other + ")", words.cross(road, other), model.cross(road, other));
    }

    private void changed(int kind) {
        int road = roadNumber();
        int other = roadNumber();
        if (kind == 12) {
            int by = number(0, 20);
            compare("turn(" + road + ", " + by + ")", words.turn(road, by), model.turn(road, by));
        } else if (kind == 13) {
            int how = number(0, 2);
            compare("change(" + road + ", " + how + ")", words.change(road, how), model.change(road, how));
        } else if (kind == 14) {
            compare("join(" + road + ", " + other + ")", words.join(road, other), model.join(road, other));
        } else if (kind == 15) {
            int n = number(2, 5);
            compare("times(" + road + ", " + n + ")", words.times(road, n), model.times(road, n));
        } else if (kind == 16) {
            int p = number(1, 40);
            int q = number(1, 40);
            compare("cut(" + p + ", " + q + ")", words.cut(p, q), model.cut(p, q));
        } else {
            compare("drop()", words.drop(), model.drop());
            compare("drop()", words.drop(), model.drop());
        }
    }

    private void river() {
        int d = number(4, pick(2) == 0 ? 60 : 901);
        compare("river(" + d + ")", words.river(d), model.river(d));
    }

    private void river(int kind) {
        if (kind == 18) {
            river();
        }
        int form = number(0, Math.max(0, model.count(5)));
        int cycle = cycleNumber();
        int what = number(0, 8);
        int m = number(2, 1000);
        int place = number(0, 40);
        compare("simple(" + form + ", " + what + ")", words.simple(form, what), model.simple(form, what));
        compare("cycle(" + cycle + ", " + what + ")", words.cycle(cycle, what), model.cycle(cycle, what));
        compare("step(" + cycle + ", " + place + ")", words.step(cycle, place), model.step(cycle, place));
        compare("trace(" + cycle + ", " + m + ")", words.trace(cycle, m), model.trace(cycle, m));
        flow(form);
        int road = roadNumber();
        compare("where(" + road + ")", words.where(road), model.where(road));
        if (kind == 25) {
            compare("lay(" + cycle + ")", words.lay(cycle), model.lay(cycle));
        }
    }

    /** A triple that comes from a simple form by some shifts of its variables, so that it has the right discriminant. */
    private void flow(int form) {
        int a = model.simple(form, 0);
        int b = model.simple(form, 1);
        int c = model.simple(form, 2);
        for (int shift = pick(6); shift > 0 && Math.abs(a) < 1000 && Math.abs(b) < 1000 && Math.abs(c) < 1000; shift--) {
            int by = pick(7) - 3;
            if (pick(2) == 0) {
                c += by * b + by * by * a;
                b += 2 * by * a;
            } else {
                a += by * b + by * by * c;
                b += 2 * by * c;
            }
        }
        boolean told = pick(2) == 0;
        String call = "flow(" + a + ", " + b + ", " + c + ", " + told + ")";
        compare(call, words.flow(a, b, c, told), model.flow(a, b, c, told));
    }

    private void totals(int kind) {
        int what = number(0, 6);
        compare("count(" + what + ")", words.count(what), model.count(what));
        if (kind == 26) {
            int times = number(1, 40);
            int seed = number(0, 2000000000);
            compare("drawn(" + times + ", " + seed + ", " + what + ")", words.drawn(times, seed, what % 5),
                model.drawn(times, seed, what % 5));
        }
        if (kind == 27 && pick(4) == 0) {
            compare("digest()", words.digest(), model.digest());
        }
    }
}
