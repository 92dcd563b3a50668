import java.util.ArrayList;
import java.util.List;

/**
 * The document once more, as plainly as its words go: nothing is kept that can be counted, and what would be is
 * told by doing it to a copy. Slow, and without a line in common with GemCut.
 */
final class Model {
    static final class Facet {
        final int p;
        final int q;
        final int r;
        final int d;
        boolean polished;

        Facet(int p, int q, int r, int d) {
            this.p = p;
            this.q = q;
            this.r = r;
            this.d = d;
        }

        Facet copy() {
            Facet f = new Facet(p, q, r, d);
            f.polished = polished;
            return f;
        }

        int height(int[] c) {
            return p * c[0] + q * c[1] + r * c[2];
        }

        int greatest() {
            return Math.max(Math.abs(p), Math.max(Math.abs(q), Math.abs(r)));
        }

        int times(Facet o) {
            return p * o.p + q * o.q + r * o.r;
        }
    }

    private int[][][] rough;
    private final List<int[]> flaws = new ArrayList<>();
    private final List<List<Facet>> stones = new ArrayList<>();
    private int turns;
    private int spent;

    Model() {
        fresh(6, 6, 6);
    }

    private void fresh(int columns, int rows, int layers) {
        rough = new int[columns][rows][layers];
        flaws.clear();
        stones.clear();
        stones.add(new ArrayList<>());
        turns = 400;
        spent = 0;
    }

    private Model copy() {
        Model m = new Model();
        m.fresh(rough.length, rough[0].length, rough[0][0].length);
        for (int[] c : cells()) {
            m.rough[c[0]][c[1]][c[2]] = rough[c[0]][c[1]][c[2]];
        }
        m.flaws.addAll(flaws);
        m.stones.clear();
        for (List<Facet> planes : stones) {
            List<Facet> copies = new ArrayList<>();
            for (Facet f : planes) {
                copies.add(f.copy());
            }
            m.stones.add(copies);
        }
        m.turns = turns;
        m.spent = spent;
        return m;
    }

    // ---- the wrong inputs

    private static void bounds(boolean bad) {
        if (bad) {
            throw new IndexOutOfBoundsException();
        }
    }

    private static void argument(boolean bad) {
        if (bad) {
            throw new IllegalArgumentException();
        }
    }

    private static void state(boolean bad) {
        if (bad) {
            throw new IllegalStateException();
        }
    }

    private static boolean within(int a, int low, int high) {
        return low <= a && a <= high;
    }

    private static boolean slope(int p, int q, int r) {
        return within(p, -3, 3) && within(q, -3, 3) && within(r, -3, 3) && !(p == 0 && q == 0 && r == 0);
    }

    private boolean inRough(int x, int y, int z) {
        return within(x, 0, rough.length - 1) && within(y, 0, rough[0].length - 1)
                && within(z, 0, rough[0][0].length - 1);
    }

    private boolean isStone(int s) {
        return within(s, 0, stones.size() - 1);
    }

    private boolean isFlaw(int f) {
        return within(f, 0, flaws.size() - 1);
    }

    private boolean isPlane(int s, int k) {
        return within(k, 0, stones.get(s).size() - 1);
    }

    // ---- what the words mean

    private List<int[]> cells() {
        List<int[]> all = new ArrayList<>();
        for (int z = 0; z < rough[0][0].length; z++) {
            for (int y = 0; y < rough[0].length; y++) {
                for (int x = 0; x < rough.length; x++) {
                    all.add(new int[] {x, y, z});
                }
            }
        }
        return all;
    }

    private List<int[]> cellsOf(int stone) {
        List<int[]> its = new ArrayList<>();
        for (int[] c : cells()) {
            if (rough[c[0]][c[1]][c[2]] == stone) {
                its.add(c);
            }
        }
        return its;
    }

    private boolean atSurface(int[] c) {
        int[][] sides = {{1, 0, 0}, {-1, 0, 0}, {0, 1, 0}, {0, -1, 0}, {0, 0, 1}, {0, 0, -1}};
        int stone = rough[c[0]][c[1]][c[2]];
        int same = 0;
        for (int[] side : sides) {
            int x = c[0] + side[0];
            int y = c[1] + side[1];
            int z = c[2] + side[2];
            same += inRough(x, y, z) && rough[x][y][z] == stone ? 1 : 0;
        }
        return same < 6;
    }

    private List<int[]> flawCells(int flaw, int stone) {
        int[] f = flaws.get(flaw);
        List<int[]> its = new ArrayList<>();
        for (int[] c : cellsOf(stone)) {
            if (Math.abs(f[0] - c[0]) + Math.abs(f[1] - c[1]) + Math.abs(f[2] - c[2]) <= f[3]) {
                its.add(c);
            }
        }
        return its;
    }

    private int tellFlaw(int flaw, int stone, int what) {
        List<int[]> its = flawCells(flaw, stone);
        int open = 0;
        for (int[] c : its) {
            if (atSurface(c)) {
                open++;
            }
        }
        if (what == 0) {
            return its.size();
        }
        return what == 1 ? open : its.isEmpty() ? -1 : open > 0 ? 1 : 0;
    }

    private int touching(int stone, Facet f) {
        int n = 0;
        for (int[] c : cellsOf(stone)) {
            if (f.height(c) + f.greatest() > f.d) {
                n++;
            }
        }
        return n;
    }

    private int tellStone(int stone, int what) {
        List<Facet> now = new ArrayList<>();
        int polished = 0;
        for (Facet f : stones.get(stone)) {
            if (touching(stone, f) > 0) {
                now.add(f);
                polished += f.polished ? 1 : 0;
            }
        }
        int twice = 0;
        for (Facet f : now) {
            for (Facet g : now) {
                if (f.p + g.p == 0 && f.q + g.q == 0 && f.r + g.r == 0) {
                    twice++;
                }
            }
        }
        int open = 0;
        int hidden = 0;
        int points = 0;
        for (int f = 0; f < flaws.size(); f++) {
            int state = tellFlaw(f, stone, 2);
            open += state == 1 ? 1 : 0;
            hidden += state == 0 ? 1 : 0;
            points += state == 1 ? 6 * flaws.get(f)[4] : state == 0 ? 2 * flaws.get(f)[4] : 0;
        }
        int w = cellsOf(stone).size();
        switch (what) {
            case 0:
                return w;
            case 1:
                return stones.get(stone).size();
            case 2:
                return now.size();
            case 3:
                return polished;
            case 4:
                return twice / 2;
            case 5:
                return open;
            case 6:
                return hidden;
            case 7:
                int percent = 100 - points < 10 ? 10 : 100 - points;
                return w == 0 ? 0 : (w * w / 10 + 10 * w) * percent / 100 + 25 * polished + 40 * (twice / 2);
            default:
                int surface = 0;
                for (int[] c : cellsOf(stone)) {
                    surface += atSurface(c) ? 1 : 0;
                }
                return surface;
        }
    }

    private int tellPlane(int stone, int k, int what) {
        Facet f = stones.get(stone).get(k);
        int[] all = {f.p, f.q, f.r, f.d, touching(stone, f), f.polished ? 1 : 0};
        return all[what];
    }

    private int tellCount(int what) {
        int[] all = new int[8];
        all[0] = cells().size();
        for (int s = 0; s < stones.size(); s++) {
            int w = tellStone(s, 0);
            all[1] += w;
            all[3] += w > 0 ? 1 : 0;
            all[6] += what == 6 ? tellStone(s, 7) : 0;
        }
        all[2] = stones.size();
        all[4] = flaws.size();
        all[5] = turns;
        all[7] = spent;
        return all[what];
    }

    /** Hands all cells of the stone above the plane to another owner and tells how many. */
    private int hand(int stone, Facet f, int owner) {
        int n = 0;
        for (int[] c : cellsOf(stone)) {
            if (f.height(c) > f.d) {
                rough[c[0]][c[1]][c[2]] = owner;
                n++;
            }
        }
        return n;
    }

    private Model afterCut(int stone, Facet f) {
        Model m = copy();
        m.hand(stone, f, -1);
        m.stones.get(stone).add(f);
        return m;
    }

    // ---- the face

    int take(int columns, int rows, int layers) {
        argument(!within(columns, 1, 10) || !within(rows, 1, 10) || !within(layers, 1, 10));
        fresh(columns, rows, layers);
        return columns * rows * layers;
    }

    int flaw(int x, int y, int z, int radius, int severity) {
        bounds(!inRough(x, y, z));
        argument(!within(radius, 0, 3) || !within(severity, 1, 9));
        state(flaws.size() == 10);
        flaws.add(new int[] {x, y, z, radius, severity});
        return flaws.size() - 1;
    }

    int cell(int x, int y, int z) {
        bounds(!inRough(x, y, z));
        return rough[x][y][z];
    }

    int flawIn(int flaw, int stone, int what) {
        bounds(!isFlaw(flaw) || !isStone(stone) || !within(what, 0, 2));
        return tellFlaw(flaw, stone, what);
    }

    int saw(int stone, int p, int q, int r, int d) {
        bounds(!isStone(stone));
        argument(!slope(p, q, r) || !within(d, -100, 100));
        Facet f = new Facet(p, q, r, d);
        int above = copy().hand(stone, f, -1);
        state(stones.size() == 8 || above == 0 || above == cellsOf(stone).size());
        hand(stone, f, stones.size());
        stones.add(new ArrayList<>());
        return stones.size() - 1;
    }

    int cut(int stone, int p, int q, int r, int d) {
        bounds(!isStone(stone));
        argument(!slope(p, q, r) || !within(d, -100, 100));
        Facet f = new Facet(p, q, r, d);
        int above = copy().hand(stone, f, -1);
        state(stones.get(stone).size() == 16 || 3 * above > turns);
        hand(stone, f, -1);
        stones.get(stone).add(f);
        turns -= 3 * above;
        spent += 3 * above;
        return above;
    }

    int polish(int stone, int plane) {
        bounds(!isStone(stone) || !isPlane(stone, plane));
        Facet f = stones.get(stone).get(plane);
        int n = touching(stone, f);
        state(n == 0 || f.polished || n + 5 > turns);
        f.polished = true;
        turns -= n + 5;
        spent += n + 5;
        return n + 5;
    }

    int dress() {
        int had = turns;
        turns = 400;
        return had;
    }

    int stone(int stone, int what) {
        bounds(!isStone(stone) || !within(what, 0, 8));
        return tellStone(stone, what);
    }

    int plane(int stone, int plane, int what) {
        bounds(!isStone(stone) || !isPlane(stone, plane) || !within(what, 0, 5));
        return tellPlane(stone, plane, what);
    }

    int angle(int stone, int a, int b) {
        bounds(!isStone(stone) || !isPlane(stone, a) || !isPlane(stone, b));
        Facet f = stones.get(stone).get(a);
        Facet g = stones.get(stone).get(b);
        int product = f.times(g);
        int told = 100 * product * product / (f.times(f) * g.times(g));
        return product < 0 ? -told : told;
    }

    int count(int what) {
        bounds(!within(what, 0, 7));
        return tellCount(what);
    }

    int would(int stone, int p, int q, int r, int d, int what) {
        bounds(!isStone(stone) || !within(what, 0, 3));
        argument(!slope(p, q, r) || !within(d, -100, 100));
        Model then = afterCut(stone, new Facet(p, q, r, d));
        switch (what) {
            case 0:
                return tellStone(stone, 0) - then.tellStone(stone, 0);
            case 1:
                return then.tellStone(stone, 7);
            case 2:
                return then.tellStone(stone, 5);
            default:
                return then.tellStone(stone, 4);
        }
    }

    int depth(int stone, int p, int q, int r) {
        bounds(!isStone(stone));
        argument(!slope(p, q, r));
        List<int[]> its = cellsOf(stone);
        state(its.isEmpty());
        Facet f = new Facet(p, q, r, 0);
        int low = 1000;
        int high = -1000;
        for (int[] c : its) {
            low = Math.min(low, f.height(c));
            high = Math.max(high, f.height(c));
        }
        int best = high;
        int bestWorth = -1;
        for (int d = high; d >= low; d--) {
            int worth = afterCut(stone, new Facet(p, q, r, d)).tellStone(stone, 7);
            if (worth > bestWorth) {
                best = d;
                bestWorth = worth;
            }
        }
        return best;
    }

    int rid(int flaw, int stone, int what) {
        bounds(!isFlaw(flaw) || !isStone(stone) || !within(what, 0, 2));
        if (flawCells(flaw, stone).isEmpty()) {
            return what == 1 ? -1000 : -1;
        }
        int[] best = {-1, -1000, 100000};
        for (int p = -1; p <= 1; p++) {
            for (int q = -1; q <= 1; q++) {
                for (int r = -1; r <= 1; r++) {
                    if (slope(p, q, r)) {
                        int d = 100;
                        while (afterCut(stone, new Facet(p, q, r, d)).flawCells(flaw, stone).size() > 0) {
                            d--;
                        }
                        int loss = copy().hand(stone, new Facet(p, q, r, d), -1);
                        if (loss < best[2]) {
                            best = new int[] {9 * (p + 1) + 3 * (q + 1) + r + 1, d, loss};
                        }
                    }
                }
            }
        }
        return best[what];
    }

    double kept() {
        int left = 0;
        for (int s = 0; s < stones.size(); s++) {
            left += cellsOf(s).size();
        }
        return (double) left / cells().size();
    }

    long digest() {
        List<Integer> told = new ArrayList<>();
        for (int what = 0; what <= 7; what++) {
            told.add(tellCount(what));
        }
        for (int[] c : cells()) {
            told.add(rough[c[0]][c[1]][c[2]]);
        }
        for (int s = 0; s < stones.size(); s++) {
            for (int what = 0; what <= 8; what++) {
                told.add(tellStone(s, what));
            }
            for (int k = 0; k < stones.get(s).size(); k++) {
                for (int what = 0; what <= 5; what++) {
                    told.add(tellPlane(s, k, what));
                }
            }
        }
        for (int f = 0; f < flaws.size(); f++) {
            for (int s = 0; s < stones.size(); s++) {
                for (int what = 0; what <= 2; what++) {
                    told.add(tellFlaw(f, s, what));
                }
            }
        }
        long d = 577;
        for (int x : told) {
            d = d * 31 + x;
        }
        return d;
    }
}
