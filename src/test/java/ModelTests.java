/** Long runs of calls, each answer of GemCut compared with that of Model. The runs are always the same ones. */
public final class ModelTests {
    private static final int RUNS = 500;
    private static final int MOST_CALLS = 512;

    private final GemCut bench = new GemCut();
    private final Model model = new Model();
    private final int run;
    private int side;
    private long seed;

    private ModelTests(int run) {
        this.run = run;
        this.seed = 40503L * run + 7;
        // The model is slow, so that only some runs have large roughs.
        this.side = run % 25 == 0 ? 10 : run % 5 == 0 ? 5 : 4;
    }

    public static void main(String[] args) {
        for (int run = 0; run < RUNS; run++) {
            new ModelTests(run).go(run % 25 == 0 ? 60 : run % 10 == 0 ? MOST_CALLS : 150);
        }
        Check.end();
    }

    private void go(int calls) {
        take(below(side) + 1, below(side) + 1, below(side) + 1);
        for (int done = 1; done < calls; done++) {
            one();
        }
    }

    /** A number from 0 to n - 1. */
    private int below(int n) {
        seed = seed * 6364136223846793005L + 1442695040888963407L;
        return (int) ((seed >>> 33) % n);
    }

    private int stone() {
        int stones = bench.count(2);
        return below(30) == 0 ? below(2) * (stones + 1) - 1 : below(stones);
    }

    private int flaw() {
        int flaws = bench.count(4);
        return flaws == 0 || below(30) == 0 ? below(2) * (flaws + 1) - 1 : below(flaws);
    }

    private int plane(int stone) {
        int planes = stone < 0 || stone >= bench.count(2) ? 0 : bench.stone(stone, 1);
        return planes == 0 || below(30) == 0 ? below(2) * (planes + 1) - 1 : below(planes);
    }

    private int steep() {
        return below(40) == 0 ? below(2) * 8 - 4 : below(3) > 0 ? below(3) - 1 : below(7) - 3;
    }

    private int what(int most) {
        return below(30) == 0 ? below(2) * (most + 2) - 1 : below(most + 1);
    }

    private int coordinate() {
        return below(30) == 0 ? -1 : below(side);
    }

    /** Mostly near the end of the stone, so that cuts are small and many facets stay. */
    private int deep(int stone, int p, int q, int r) {
        int kind = below(20);
        if (kind == 0) {
            return below(2) * 202 - 101;
        }
        if (kind == 1) {
            return below(2) * 200 - 100;
        }
        if (kind < 5) {
            return below(40) - 20;
        }
        int high = -100;
        for (int x = 0; x < side; x++) {
            for (int y = 0; y < side; y++) {
                for (int z = 0; z < side; z++) {
                    if (isCellOf(stone, x, y, z)) {
                        high = Math.max(high, p * x + q * y + r * z);
                    }
                }
            }
        }
        return high - below(4);
    }

    private boolean isCellOf(int stone, int x, int y, int z) {
        return Check.answer(() -> model.cell(x, y, z)).equals(String.valueOf(stone));
    }

    private void take(int columns, int rows, int layers) {
        same("take(" + columns + ", " + rows + ", " + layers + ")",
                () -> model.take(columns, rows, layers), () -> bench.take(columns, rows, layers));
    }

    private void same(String call, Check.Call due, Check.Call asked) {
        Check.same("run " + run + ": " + call, Check.answer(due), Check.answer(asked));
    }

    private void one() {
        int kind = below(100);
        if (kind < 8) {
            int x = coordinate();
            int y = coordinate();
            int z = coordinate();
            int radius = below(20) == 0 ? 4 : below(4);
            int severity = below(20) == 0 ? below(2) * 10 : below(3) == 0 ? below(9) + 1 : below(2) + 1;
            same("flaw(" + x + ", " + y + ", " + z + ", " + radius + ", " + severity + ")",
                    () -> model.flaw(x, y, z, radius, severity), () -> bench.flaw(x, y, z, radius, severity));
        } else if (kind < 45) {
            planeCall(kind - 8);
        } else if (kind < 60) {
            changeCall(kind - 45);
        } else if (kind < 96) {
            tellCall(kind - 60);
        } else if (kind < 98) {
            same("kept()", model::kept, bench::kept);
        } else {
            same("digest()", model::digest, bench::digest);
        }
    }

    /** kind from 0 to 36 */
    private void planeCall(int kind) {
        int s = stone();
        int p = steep();
        int q = steep();
        int r = steep();
        int d = deep(s, p, q, r);
        String where = "(" + s + ", " + p + ", " + q + ", " + r;
        if (kind < 3) {
            same("saw" + where + ", " + d + ")", () -> model.saw(s, p, q, r, d), () -> bench.saw(s, p, q, r, d));
        } else if (kind < 20) {
            same("cut" + where + ", " + d + ")", () -> model.cut(s, p, q, r, d), () -> bench.cut(s, p, q, r, d));
            if (below(2) == 0) {
                int e = deep(s, -p, -q, -r);
                same("cut" + where + " the other way, " + e + ")",
                        () -> model.cut(s, -p, -q, -r, e), () -> bench.cut(s, -p, -q, -r, e));
            }
        } else if (kind < 32) {
            int what = what(3);
            same("would" + where + ", " + d + ", " + what + ")",
                    () -> model.would(s, p, q, r, d, what), () -> bench.would(s, p, q, r, d, what));
        } else {
            same("depth" + where + ")", () -> model.depth(s, p, q, r), () -> bench.depth(s, p, q, r));
        }
    }

    /** kind from 0 to 14 */
    private void changeCall(int kind) {
        if (kind < 10) {
            int s = stone();
            int k = plane(s);
            same("polish(" + s + ", " + k + ")", () -> model.polish(s, k), () -> bench.polish(s, k));
        } else if (kind < 14) {
            same("dress()", model::dress, bench::dress);
        } else if (below(4) == 0) {
            take(below(side + 1), below(side) + 1, below(30) == 0 ? 11 : below(side) + 1);
        }
    }

    /** kind from 0 to 35 */
    private void tellCall(int kind) {
        int s = stone();
        int f = flaw();
        if (kind < 6) {
            int what = what(2);
            same("flawIn(" + f + ", " + s + ", " + what + ")",
                    () -> model.flawIn(f, s, what), () -> bench.flawIn(f, s, what));
        } else if (kind < 10) {
            int what = what(2);
            same("rid(" + f + ", " + s + ", " + what + ")",
                    () -> model.rid(f, s, what), () -> bench.rid(f, s, what));
        } else if (kind < 14) {
            int x = coordinate();
            int y = coordinate();
            int z = coordinate();
            same("cell(" + x + ", " + y + ", " + z + ")", () -> model.cell(x, y, z), () -> bench.cell(x, y, z));
        } else if (kind < 23) {
            int what = what(8);
            same("stone(" + s + ", " + what + ")", () -> model.stone(s, what), () -> bench.stone(s, what));
        } else if (kind < 28) {
            int k = plane(s);
            int what = what(5);
            same("plane(" + s + ", " + k + ", " + what + ")",
                    () -> model.plane(s, k, what), () -> bench.plane(s, k, what));
        } else if (kind < 32) {
            int a = plane(s);
            int b = plane(s);
            same("angle(" + s + ", " + a + ", " + b + ")", () -> model.angle(s, a, b), () -> bench.angle(s, a, b));
        } else {
            int what = what(7);
            same("count(" + what + ")", () -> model.count(what), () -> bench.count(what));
        }
    }
}
