/** Long runs of calls, each answer of GemCut compared with that of Model. The runs are always the same ones. */
public final class ModelTests {
    private static final int RUNS = 300;
    /** One step asks three calls at most, and of an object no more than 512 are promised. */
    private static final int LONG_RUN = 509;

    private final GemCut bench = new GemCut();
    private final Model model = new Model();
    private final int run;
    private final int most;
    private int columns;
    private int rows;
    private int layers;
    private int made;
    private long seed;

    private ModelTests(int run) {
        this.run = run;
        this.seed = 40503L * run + 7;
        // The model is slow, so that only some runs have large roughs.
        this.most = run % 25 == 0 ? 10 : run % 3 == 0 ? 6 : 5;
    }

    public static void main(String[] args) {
        for (int run = 0; run < RUNS; run++) {
            new ModelTests(run).go(run % 10 == 9 ? LONG_RUN : 150);
        }
        Check.end();
    }

    private void go(int calls) {
        takeAny();
        for (int steps = 0; steps < calls && made < calls; steps++) {
            one();
        }
    }

    private void takeAny() {
        columns = below(most) + 1;
        rows = Math.max(1, most - below(most));
        layers = Math.max(1, most - below(3));
        take(columns, rows, layers);
    }

    /** A number from 0 to n - 1. */
    private int below(int n) {
        seed = seed * 6364136223846793005L + 1442695040888963407L;
        return (int) ((seed >>> 33) % n);
    }

    private boolean seldom() {
        return below(60) == 0;
    }

    /** From 0 to n - 1, but seldom one beyond either end. */
    private int number(int n) {
        return n == 0 || seldom() ? below(2) * (n + 1) - 1 : below(n);
    }

    /** Mostly one of which something is left. */
    private int stone() {
        int stone = number(model.count(2));
        for (int tries = 0; tries < 3 && weight(stone) == 0; tries++) {
            stone = number(model.count(2));
        }
        return stone;
    }

    private int weight(int stone) {
        return stone < 0 || stone >= model.count(2) ? 0 : model.stone(stone, 0);
    }

    private int plane(int stone) {
        return number(stone < 0 || stone >= model.count(2) ? 0 : model.stone(stone, 1));
    }

    private int[] slope() {
        int[] slope = new int[3];
        for (int tries = 0; tries < 5 && slope[0] == 0 && slope[1] == 0 && slope[2] == 0; tries++) {
            int steep = below(3) == 0 ? 3 : 1;
            for (int k = 0; k < 3; k++) {
                slope[k] = seldom() ? below(2) * 8 - 4 : below(2 * steep + 1) - steep;
            }
        }
        return slope;
    }

    /** Mostly near the end of the stone, so that cuts are small and many facets stay. */
    private int deep(int stone, int[] slope) {
        if (seldom()) {
            return below(2) * 202 - 101;
        }
        if (seldom()) {
            return below(2) * 200 - 100;
        }
        int high = -100;
        int low = 100;
        for (int x = 0; x < columns; x++) {
            for (int y = 0; y < rows; y++) {
                for (int z = 0; z < layers; z++) {
                    if (model.cell(x, y, z) == stone) {
                        int height = slope[0] * x + slope[1] * y + slope[2] * z;
                        high = Math.max(high, height);
                        low = Math.min(low, height);
                    }
                }
            }
        }
        if (high < low) {
            return below(20) - 10;
        }
        return below(8) == 0 ? low - 2 + below(high - low + 5) : high + 1 - below(3);
    }

    private void take(int columns, int rows, int layers) {
        same("take(" + columns + ", " + rows + ", " + layers + ")",
                () -> model.take(columns, rows, layers), () -> bench.take(columns, rows, layers));
    }

    private void same(String call, Check.Call due, Check.Call asked) {
        made++;
        Check.same("run " + run + ": " + call, Check.answer(due), Check.answer(asked));
    }

    private void one() {
        if (model.count(1) * 6 < model.count(0) && below(8) == 0) {
            takeAny();
        }
        int kind = below(100);
        if (kind < 6) {
            int x = number(columns);
            int y = number(rows);
            int z = number(layers);
            int radius = seldom() ? 4 : below(4);
            int severity = seldom() ? below(2) * 10 : below(3) == 0 ? below(9) + 1 : below(2) + 1;
            same("flaw(" + x + ", " + y + ", " + z + ", " + radius + ", " + severity + ")",
                    () -> model.flaw(x, y, z, radius, severity), () -> bench.flaw(x, y, z, radius, severity));
        } else if (kind < 45) {
            planeCall(kind - 6);
        } else if (kind < 60) {
            changeCall(kind - 45);
        } else if (kind < 96) {
            tellCall(kind - 60);
        } else if (kind < 98) {
            same("kept()", model::kept, bench::kept);
        } else {
            same("digest()", model::digest, bench::digest);
        }
    }

    /** kind from 0 to 38 */
    private void planeCall(int kind) {
        int s = stone();
        int[] slope = slope();
        int p = slope[0];
        int q = slope[1];
        int r = slope[2];
        int d = deep(s, slope);
        String where = "(" + s + ", " + p + ", " + q + ", " + r;
        if (kind < 4) {
            same("saw" + where + ", " + d + ")", () -> model.saw(s, p, q, r, d), () -> bench.saw(s, p, q, r, d));
        } else if (kind < 14) {
            same("cut" + where + ", " + d + ")", () -> model.cut(s, p, q, r, d), () -> bench.cut(s, p, q, r, d));
            if (below(3) == 0) {
                int e = deep(s, new int[] {-p, -q, -r});
                same("cut" + where + " the other way, " + e + ")",
                        () -> model.cut(s, -p, -q, -r, e), () -> bench.cut(s, -p, -q, -r, e));
            }
        } else if (kind < 30) {
            int what = number(4);
            same("would" + where + ", " + d + ", " + what + ")",
                    () -> model.would(s, p, q, r, d, what), () -> bench.would(s, p, q, r, d, what));
        } else {
            same("depth" + where + ")", () -> model.depth(s, p, q, r), () -> bench.depth(s, p, q, r));
        }
    }

    /** kind from 0 to 14 */
    private void changeCall(int kind) {
        if (kind < 10) {
            int s = stone();
            int k = plane(s);
            same("polish(" + s + ", " + k + ")", () -> model.polish(s, k), () -> bench.polish(s, k));
        } else if (kind < 14) {
            same("dress()", model::dress, bench::dress);
        } else if (below(8) == 0) {
            takeAny();
        } else {
            take(below(6) * 2 + 1, below(6) * 3 - 2, 0);
        }
    }

    /** kind from 0 to 35 */
    private void tellCall(int kind) {
        int s = stone();
        int f = number(model.count(4));
        if (kind < 6) {
            int what = number(3);
            same("flawIn(" + f + ", " + s + ", " + what + ")",
                    () -> model.flawIn(f, s, what), () -> bench.flawIn(f, s, what));
        } else if (kind < 10) {
            int what = number(3);
            same("rid(" + f + ", " + s + ", " + what + ")",
                    () -> model.rid(f, s, what), () -> bench.rid(f, s, what));
        } else if (kind < 14) {
            int x = number(columns);
            int y = number(rows);
            int z = number(layers);
            same("cell(" + x + ", " + y + ", " + z + ")", () -> model.cell(x, y, z), () -> bench.cell(x, y, z));
        } else if (kind < 23) {
            int what = number(9);
            same("stone(" + s + ", " + what + ")", () -> model.stone(s, what), () -> bench.stone(s, what));
        } else if (kind < 28) {
            int k = plane(s);
            int what = number(6);
            same("plane(" + s + ", " + k + ", " + what + ")",
                    () -> model.plane(s, k, what), () -> bench.plane(s, k, what));
        } else if (kind < 32) {
            int a = plane(s);
            int b = plane(s);
            same("angle(" + s + ", " + a + ", " + b + ")", () -> model.angle(s, a, b), () -> bench.angle(s, a, b));
        } else {
            int what = number(8);
            same("count(" + what + ")", () -> model.count(what), () -> bench.count(what));
        }
    }
}
