/** The boundaries of would, depth, rid, kept and digest. The answers were worked out by hand. */
public final class WouldBeTests {
    private WouldBeTests() {
    }

    public static void main(String[] args) {
        wouldChangesNothing();
        wouldWithoutTurns();
        wouldBeyondSixteenPlanes();
        wouldOfAllAndOfNothing();
        wouldBeAFacetJust();
        wouldBeOpenJust();
        depthOfASingleCell();
        depthAtTheLowest();
        depthAtTheHighest();
        depthTheGreatestOfSeveral();
        depthWhereNoCellIs();
        depthWithoutTurnsBeyondSixteenPlanes();
        ridChangesNothing();
        ridTheLeastOfSeveral();
        ridByEachPlane();
        ridByNoSteeperPlane();
        ridAtTheGreatestDepth();
        ridOfWhatIsNotThere();
        ridWithoutTurnsBeyondSixteenPlanes();
        keptAllAndNothing();
        digestInItsOrder();
        digestWrapsAround();
        Check.end();
    }

    private static GemCut rough(int columns, int rows, int layers) {
        GemCut x = new GemCut();
        x.take(columns, rows, layers);
        return x;
    }

    /** p, q, r and d */
    private static void would(GemCut x, String label, int[] plane, int... due) {
        for (int what = 0; what < due.length; what++) {
            Check.same(label + ": would " + what, due[what],
                    x.would(0, plane[0], plane[1], plane[2], plane[3], what));
        }
    }

    private static void rid(GemCut x, String label, int flaw, int stone, int... due) {
        for (int what = 0; what < due.length; what++) {
            Check.same(label + ": rid(" + flaw + ", " + stone + ", " + what + ")", due[what],
                    x.rid(flaw, stone, what));
        }
    }

    // ---- promise 14, "nothing is changed", "whatever the wheel has, and however many planes it keeps"

    private static void wouldChangesNothing() {
        int[] taken = {36, 27, 18, 9, 0, 0};
        for (int d = -1; d <= 4; d++) {
            int depth = d;
            Twins.unchanged("would at " + d, taken[d + 1], Benches::worked, x -> x.would(0, 1, 0, 0, depth, 0));
            for (int what = 1; what <= 3; what++) {
                int told = what;
                GemCut other = Twins.bench(Benches::worked);
                int due = other.would(0, 1, 0, 0, depth, told);
                Twins.unchanged("would " + what + " at " + d, due, Benches::worked,
                        x -> x.would(0, 1, 0, 0, depth, told));
            }
        }
        Twins.unchanged("would of the empty", 0, Benches::worked, x -> x.would(2, 1, 0, 0, -100, 1));
    }

    private static void wouldWithoutTurns() {
        int[] lefts = {0, 2, 3};
        for (int left : lefts) {
            GemCut x = new GemCut();
            Benches.turnsLeft(x, left);
            x.flaw(9, 9, 9, 0, 9);
            would(x, "all, with " + left + " turns", new int[] {1, 0, 0, -1}, 1000, 0, 0, 0);
            // 45000 of which 100 parts; neither sides nor edges nor corners are left of the facets at x 9
            Check.same("half, with " + left + " turns", 500, x.would(0, 1, 0, 0, 4, 0));
            Check.same("one, with " + left + " turns", 1, x.would(0, 1, 1, 1, 26, 0));
            Check.same("the turns stay", left, x.count(5));
        }
    }

    private static void wouldBeyondSixteenPlanes() {
        GemCut x = new GemCut();
        Benches.planed(x, 16);
        // 8 cells, 86; the seventeenth makes a pair with each of the sixteen
        would(x, "opposite to sixteen", new int[] {-1, 0, 0, 0}, 0, 86 + 16 * 40, 0, 16);
        // 4 cells, 41; the sixteen are facets still
        would(x, "opposite to sixteen, and nearer", new int[] {-1, 0, 0, -1}, 4, 41 + 16 * 40, 0, 16);
        would(x, "the sixteen are off", new int[] {1, 0, 0, 0}, 4, 41, 0, 0);
        would(x, "opposite, but no facet", new int[] {-1, 0, 0, 1}, 0, 86, 0, 0);
        would(x, "nothing is left", new int[] {-1, 0, 0, -2}, 8, 0, 0, 0);
        x.polish(0, 0);
        x.polish(0, 15);
        would(x, "two of them are polished", new int[] {-1, 0, 0, 0}, 0, 86 + 50 + 16 * 40, 0, 16);
        would(x, "polished, but off", new int[] {1, 0, 0, 0}, 4, 41, 0, 0);
        Check.same("it keeps sixteen", 16, x.stone(0, 1));
        Benches.planed(x, 15);
        would(x, "opposite to fifteen", new int[] {-1, 0, 0, 0}, 0, 86 + 15 * 40, 0, 15);
    }

    private static void wouldOfAllAndOfNothing() {
        GemCut x = rough(3, 3, 3);
        x.flaw(1, 1, 1, 0, 5);
        // 342 of which 90 parts, while it is hidden; 70 parts of 212 and 98 and 12 parts, open
        would(x, "nothing", new int[] {1, 1, 1, 6}, 0, 307, 0, 0);
        would(x, "one cell", new int[] {1, 1, 1, 5}, 1, (67 + 260) * 90 / 100, 0, 0);
        would(x, "all but one", new int[] {1, 1, 1, 0}, 26, 10, 0, 0);
        would(x, "all", new int[] {1, 1, 1, -1}, 27, 0, 0, 0);
        would(x, "the greatest depth", new int[] {-3, -3, -3, 100}, 0, 307, 0, 0);
        would(x, "the least depth", new int[] {-3, -3, -3, -100}, 27, 0, 0, 0);
        would(x, "a layer", new int[] {0, 0, -1, -1}, 9, 212 * 70 / 100, 1, 0);
        would(x, "the flaw too", new int[] {0, 0, -1, -2}, 18, 98, 0, 0);
    }

    /** The plane of the cut is a facet then, if one of the cells that stay touches it. */
    private static void wouldBeAFacetJust() {
        for (int steep = 1; steep <= 3; steep++) {
            GemCut x = rough(4, 1, 1);
            x.cut(0, -steep, 0, 0, 0);
            for (int d = 0; d <= 3 * steep + steep + 1; d++) {
                int left = Math.min(4, d / steep + 1);
                int pairs = d < 4 * steep ? 1 : 0;
                int worth = left * left / 10 + 10 * left + 40 * pairs;
                would(x, "steep by " + steep + " at " + d, new int[] {steep, 0, 0, d}, 4 - left, worth, 0, pairs);
            }
            would(x, "steep by " + steep + " at -1", new int[] {steep, 0, 0, -1}, 4, 0, 0, 0);
        }
        GemCut y = diagonal();
        would(y, "at the second cell", new int[] {1, 1, 0, 2}, 0, 20 + 80, 0, 2);
        would(y, "off the first cell", new int[] {1, 1, 0, 1}, 1, 10 + 40, 0, 1);
        would(y, "at the first cell", new int[] {1, 1, 0, 0}, 1, 10 + 80, 0, 2);
    }

    /** Two cells, 0, 0 and 1, 1, with a pair of facets beside both and a plane that touches the first one. */
    private static GemCut diagonal() {
        GemCut y = rough(2, 2, 1);
        y.cut(0, 1, -1, 0, 0);
        y.cut(0, -1, 1, 0, 0);
        y.cut(0, -1, -1, 0, 0);
        Check.same("two cells", 2, y.stone(0, 0));
        Check.same("three facets", 3, y.stone(0, 2));
        return y;
    }

    private static void wouldBeOpenJust() {
        GemCut x = rough(9, 9, 9);
        x.flaw(4, 4, 4, 2, 9);
        int[] open = {0, 1, 1, 1, 1, 1, 0, 0};
        for (int d = 1; d <= 8; d++) {
            Check.same("x at most " + d, open[d - 1], x.would(0, 1, 0, 0, d, 2));
            Check.same("y at most " + d, open[d - 1], x.would(0, 0, 1, 0, d, 2));
            Check.same("z at most " + d, open[d - 1], x.would(0, 0, 0, 1, d, 2));
            Check.same("x at least " + (8 - d), open[d - 1], x.would(0, -1, 0, 0, d - 8, 2));
            Check.same("y at least " + (8 - d), open[d - 1], x.would(0, 0, -1, 0, d - 8, 2));
            Check.same("z at least " + (8 - d), open[d - 1], x.would(0, 0, 0, -1, d - 8, 2));
        }
    }

    // ---- promise 15, "from the height of the lowest of its cells to that of the highest one; .. the greatest one"

    private static void depthOfASingleCell() {
        for (int p = -3; p <= 3; p++) {
            for (int q = -3; q <= 3; q++) {
                for (int r = -3; r <= 3; r++) {
                    if (p != 0 || q != 0 || r != 0) {
                        GemCut x = rough(1, 1, 1);
                        Check.same("depth of 0, 0, 0 by " + p + ", " + q + ", " + r, 0, x.depth(0, p, q, r));
                        x.take(2, 3, 4);
                        x.saw(0, 1, 1, 1, 5);
                        Check.same("depth of 1, 2, 3 by " + p + ", " + q + ", " + r, p + 2 * q + 3 * r,
                                x.depth(1, p, q, r));
                    }
                }
            }
        }
    }

    /** A rod of two cells, of which the second has so many points that the first is worth more alone. */
    private static void depthAtTheLowest() {
        for (int steep = 1; steep <= 3; steep++) {
            GemCut x = rough(2, 1, 1);
            x.flaw(1, 0, 0, 0, 9);
            x.flaw(1, 0, 0, 0, 9);
            Check.same("only the lowest, steep by " + steep, steep - 1, x.depth(0, steep, 0, 0));
            x.take(2, 1, 1);
            x.flaw(0, 0, 0, 0, 9);
            x.flaw(0, 0, 0, 0, 9);
            Check.same("only the lowest the other way, steep by " + steep, -1, x.depth(0, -steep, 0, 0));
            Check.same("the lowest is worth less than both", steep, x.depth(0, steep, 0, 0));
        }
        // the last corner of a thousand cells at -81, and three beside it at -78: 4 with all the points, 10 alone
        GemCut y = rough(10, 10, 10);
        y.saw(0, 1, 1, 1, 25);
        y.flaw(8, 9, 9, 0, 9);
        y.flaw(9, 8, 9, 0, 9);
        y.flaw(9, 9, 8, 0, 9);
        Check.same("four cells", 4, y.stone(1, 0));
        Check.same("the lowest of all, and the greatest depth for it", -79, y.depth(1, -3, -3, -3));
        Check.same("it would be the corner alone", 3, y.would(1, -3, -3, -3, -79, 0));
    }

    private static void depthAtTheHighest() {
        GemCut x = rough(5, 4, 3);
        int[][] due = {{1, 0, 0, 4}, {3, 0, 0, 12}, {-3, 0, 0, 0}, {1, 1, 1, 9}, {3, 3, 3, 27}, {3, -3, 3, 18}};
        for (int[] d : due) {
            Check.same("nothing is gained by a cut", d[3], x.depth(0, d[0], d[1], d[2]));
        }
        x.cut(0, 1, 1, 1, 8);
        Check.same("no higher than what is left", 8, x.depth(0, 1, 1, 1));
        Check.same("steeper", 24, x.depth(0, 3, 3, 3));
        x.saw(0, 0, 1, 0, 1);
        Check.same("no higher than the stone", 1, x.depth(0, 0, 1, 0));
        Check.same("the new stone", 3, x.depth(1, 0, 1, 0));
        Check.same("the new stone, the other way", -2, x.depth(1, 0, -1, 0));
    }

    private static void depthTheGreatestOfSeveral() {
        int[] severities = {6, 7, 8};
        // ten cells of which 64, 58 or 52 parts are 70, 63 or 57; six cells without the flaw are 63
        int[] due = {9, 9, 5};
        int[] dueBack = {0, 0, -4};
        int[] dueSteep = {27, 27, 17};
        int[] dueSteepBack = {0, 0, -10};
        for (int k = 0; k < 3; k++) {
            GemCut x = rough(10, 1, 1);
            x.flaw(6, 0, 0, 0, severities[k]);
            Check.same("whole or six cells, " + severities[k], due[k], x.depth(0, 1, 0, 0));
            Check.same("steeper, " + severities[k], dueSteep[k], x.depth(0, 3, 0, 0));
            GemCut y = rough(1, 1, 10);
            y.flaw(0, 0, 3, 0, severities[k]);
            Check.same("whole or six cells the other way, " + severities[k], dueBack[k], y.depth(0, 0, 0, -1));
            Check.same("steeper the other way, " + severities[k], dueSteepBack[k], y.depth(0, 0, 0, -3));
        }
    }

    /** Between two heights the plane may touch no cell; then it makes no pair, and the depth is worth less. */
    private static void depthWhereNoCellIs() {
        GemCut y = diagonal();
        Check.same("both cells", 2, y.depth(0, 1, 1, 0));
        y.flaw(1, 1, 0, 0, 9);
        y.flaw(1, 1, 0, 0, 9);
        // 2 and 80 with both; 10 and 40 at 1, 10 and 80 at 0
        Check.same("the first at its own height", 0, y.depth(0, 1, 1, 0));
    }

    private static void depthWithoutTurnsBeyondSixteenPlanes() {
        Twins.unchanged("depth without turns", 9, x -> Benches.turnsLeft(x, 0), x -> x.depth(0, 1, 0, 0));
        // the seventeenth makes sixteen pairs; without its own facet it would be 86 at both
        Twins.unchanged("depth beyond sixteen planes", 0, x -> Benches.planed(x, 16), x -> x.depth(0, -1, 0, 0));
        Twins.unchanged("depth in the same way", 1, x -> Benches.planed(x, 16), x -> x.depth(0, 1, 0, 0));
        // the flaw is off with x + y of 3 and 4: 12 cells are 134, while all 18 are 97
        Twins.unchanged("depth of stone 1", 2, Benches::worked, x -> x.depth(1, 1, 1, 0));
    }

    // ---- promise 16

    private static void ridChangesNothing() {
        int[] due = {-1, -1000, -1};
        for (int what = 0; what < 3; what++) {
            int told = what;
            Twins.unchanged("rid of what is not there, " + what, due[what], Benches::worked,
                    x -> x.rid(0, 1, told));
            Twins.unchanged("rid of what is empty, " + what, due[what], Benches::worked, x -> x.rid(1, 2, told));
            GemCut other = Twins.bench(Benches::worked);
            int found = other.rid(0, 0, what);
            Check.same("there is one, " + what, true, found != due[what]);
            Twins.unchanged("rid of what is there, " + what, found, Benches::worked, x -> x.rid(0, 0, told));
        }
    }

    private static void ridTheLeastOfSeveral() {
        GemCut x = rough(1, 1, 1);
        x.flaw(0, 0, 0, 0, 1);
        rid(x, "each plane takes the one cell", 0, 0, 0, -1, 1);
        GemCut y = rough(1, 1, 3);
        y.flaw(0, 0, 2, 0, 1);
        y.flaw(0, 0, 0, 0, 1);
        y.flaw(0, 0, 1, 0, 1);
        rid(y, "each plane with r 1", 0, 0, 2, 1, 1);
        rid(y, "each plane with r -1", 1, 0, 0, -1, 1);
        rid(y, "each plane with r -1 or 1", 2, 0, 0, -2, 2);
        GemCut z = rough(3, 1, 1);
        z.flaw(2, 0, 0, 0, 1);
        z.flaw(0, 0, 0, 0, 1);
        rid(z, "each plane with p 1", 0, 0, 18, 1, 1);
        rid(z, "each plane with p -1", 1, 0, 0, -1, 1);
        GemCut w = rough(1, 3, 1);
        w.flaw(0, 2, 0, 0, 1);
        w.flaw(0, 0, 0, 0, 1);
        rid(w, "each plane with q 1", 0, 0, 6, 1, 1);
        rid(w, "each plane with q -1", 1, 0, 0, -1, 1);
    }

    /** The midst of a side, of an edge, or a corner: one plane alone takes a side, an edge or a cell. */
    private static void ridByEachPlane() {
        int[] taken = {0, 81, 9, 1};
        for (int p = -1; p <= 1; p++) {
            for (int q = -1; q <= 1; q++) {
                for (int r = -1; r <= 1; r++) {
                    int ways = Math.abs(p) + Math.abs(q) + Math.abs(r);
                    if (ways > 0) {
                        GemCut x = rough(9, 9, 9);
                        x.flaw(4 + 4 * p, 4 + 4 * q, 4 + 4 * r, 0, 1);
                        int highest = 4 * (p + q + r) + 4 * ways;
                        rid(x, "by the plane " + p + ", " + q + ", " + r, 0, 0,
                                9 * (p + 1) + 3 * (q + 1) + r + 1, highest - 1, taken[ways]);
                    }
                }
            }
        }
    }

    /** Beside a corner: a plane with 2 or -2 would take these two cells alone; those of -1 to 1 take 4. */
    private static void ridByNoSteeperPlane() {
        for (int corner = 0; corner < 8; corner++) {
            int x = corner % 2 * 3;
            int y = corner / 2 % 2 * 3;
            int z = corner / 4 * 3;
            int p = x == 0 ? -1 : 1;
            int q = y == 0 ? -1 : 1;
            int r = z == 0 ? -1 : 1;
            GemCut bench = rough(4, 4, 4);
            bench.flaw(x - p, y, z, 0, 1);
            bench.flaw(x, y - q, z, 0, 1);
            bench.flaw(x, y, z - r, 0, 1);
            int depth = p * x + q * y + r * z - 2;
            Check.same("a steeper plane", 2, bench.would(0, p, 2 * q, 2 * r, p * x + 2 * q * y + 2 * r * z - 2, 0));
            for (int f = 0; f < 3; f++) {
                String label = "beside the corner " + corner + ", along " + f;
                Check.same(label + ": cells", 4, bench.rid(f, 0, 2));
                int byCorner = 9 * (p + 1) + 3 * (q + 1) + r + 1;
                int byEdge = byCorner - (f == 0 ? 9 * p : f == 1 ? 3 * q : r);
                Check.same(label + ": plane", Math.min(byCorner, byEdge), bench.rid(f, 0, 0));
                int edgeDepth = depth + 1 - (f == 0 ? p * x : f == 1 ? q * y : r * z);
                Check.same(label + ": depth", byCorner < byEdge ? depth : edgeDepth, bench.rid(f, 0, 1));
            }
        }
    }

    /** At this depth the flaw is off; a depth that is greater by 1 leaves a cell of it; no other plane takes less. */
    private static void ridAtTheGreatestDepth() {
        int[][] flaws = {{0, 0, 0, 1}, {3, 2, 2, 1}, {1, 0, 2, 2}, {2, 1, 1, 0}, {3, 1, 0, 3}, {0, 2, 1, 2}};
        for (int[] f : flaws) {
            int n = ridden(f).rid(2, 0, 0);
            int d = ridden(f).rid(2, 0, 1);
            int p = n / 9 - 1;
            int q = n / 3 % 3 - 1;
            int r = n % 3 - 1;
            String label = "the flaw at " + f[0] + ", " + f[1] + ", " + f[2] + " of radius " + f[3];
            GemCut x = ridden(f);
            Check.same(label + ": the cells it takes", x.rid(2, 0, 2), x.cut(0, p, q, r, d));
            Check.same(label + ": it is off", -1, x.flawIn(2, 0, 2));
            GemCut y = ridden(f);
            y.cut(0, p, q, r, d + 1);
            Check.same(label + ": it is not", true, y.flawIn(2, 0, 0) > 0);
        }
    }

    private static GemCut ridden(int[] flaw) {
        GemCut x = new GemCut();
        Benches.worked(x);
        x.dress();
        x.flaw(flaw[0], flaw[1], flaw[2], flaw[3], 1);
        return x;
    }

    private static void ridOfWhatIsNotThere() {
        GemCut x = rough(4, 1, 1);
        x.flaw(3, 0, 0, 0, 9);
        x.saw(0, 1, 0, 0, 1);
        rid(x, "it is in the other stone", 0, 0, -1, -1000, -1);
        rid(x, "it is in this stone", 0, 1, 18, 2, 1);
        x.cut(1, 1, 0, 0, 2);
        rid(x, "it is off", 0, 1, -1, -1000, -1);
        x.flaw(3, 0, 0, 0, 1);
        rid(x, "it was told where nothing is", 1, 1, -1, -1000, -1);
        x.flaw(3, 0, 0, 1, 1);
        rid(x, "it reaches the last cell", 2, 1, 0, -3, 1);
        x.cut(1, 1, 0, 0, 1);
        rid(x, "nothing is left", 2, 1, -1, -1000, -1);
    }

    private static void ridWithoutTurnsBeyondSixteenPlanes() {
        GemCut x = new GemCut();
        Benches.turnsLeft(x, 0);
        x.flaw(9, 9, 9, 0, 1);
        rid(x, "without turns", 0, 0, 26, 26, 1);
        x.flaw(4, 4, 4, 3, 1);
        x.flaw(4, 4, 4, 0, 1);
        x.flaw(4, 5, 4, 0, 1);
        // x + y + z is at most 12 for 425 cells, and 13, 14 and 15 for 75, 75 and 73
        rid(x, "more cells than a wheel has turns", 1, 0, 0, -16, 425 + 75 + 75 + 73);
        rid(x, "half of them, near the midst", 2, 0, 0, -13, 425);
        rid(x, "half of them, by another corner", 3, 0, 6, -4, 425);
        GemCut y = new GemCut();
        Benches.planed(y, 16);
        y.flaw(1, 1, 1, 0, 1);
        rid(y, "beyond sixteen planes", 0, 0, 26, 2, 1);
    }

    // ---- promise 17

    private static void keptAllAndNothing() {
        GemCut x = new GemCut();
        Check.same("a new object", 1.0, x.kept());
        x.saw(0, 1, 0, 0, 2);
        Check.same("sawing keeps all", 1.0, x.kept());
        x.take(3, 1, 1);
        x.cut(0, 1, 0, 0, 0);
        Check.same("one of three", 1.0 / 3.0, x.kept());
        x.cut(0, 1, 0, 0, -1);
        Check.same("none of three", 0.0, x.kept());
        x.take(10, 10, 10);
        Check.same("all of another rough", 1.0, x.kept());
        for (int d = 8; d >= 0; d--) {
            x.cut(0, 0, 0, 1, d);
            x.dress();
        }
        Check.same("a hundred of a thousand", 0.1, x.kept());
        x.cut(0, 0, 1, 0, 0);
        x.cut(0, 1, 0, 0, 0);
        Check.same("one of a thousand", 0.001, x.kept());
        x.cut(0, 1, 0, 0, -1);
        Check.same("none of a thousand", 0.0, x.kept());
    }

    // ---- promise 18

    /** A rough of unlike sides: what is told of each cell, stone, plane and flaw stands in its order. */
    private static void digestInItsOrder() {
        GemCut x = rough(3, 2, 1);
        x.flaw(0, 0, 0, 0, 1);
        x.flaw(2, 1, 0, 1, 2);
        x.saw(0, 1, 0, 0, 1);
        x.cut(0, 0, 1, 0, 0);
        x.cut(0, 2, 0, 0, 3);
        x.polish(0, 1);
        // stone 0 has 0, 0, 0 and 1, 0, 0: 20 of which 94 parts; stone 1 has both cells at x 2: 20 of which 88 parts
        Check.same("two stones, planes and flaws", Check.digestOf(
                6, 4, 2, 2, 2, 388, 18 + 25 + 17, 12,
                0, 0, 1, -1, -1, 1,
                2, 2, 2, 1, 0, 1, 0, 43, 2,
                0, 1, 0, 0, 2, 0,
                2, 0, 0, 3, 1, 1,
                2, 0, 0, 0, 0, 1, 0, 17, 2,
                1, 1, 1, 0, 0, -1,
                0, 0, -1, 2, 2, 1), x.digest());
        GemCut y = rough(2, 2, 2);
        y.saw(0, 1, 0, 0, 0);
        y.saw(0, 0, 1, 0, 0);
        y.cut(0, 0, 0, 1, 0);
        Check.same("cells by z, then y, then x", Check.digestOf(
                8, 7, 3, 3, 0, 397, 10 + 41 + 20, 3,
                0, 1, 2, 1, -1, 1, 2, 1,
                1, 1, 1, 0, 0, 0, 0, 10, 1,
                0, 0, 1, 0, 1, 0,
                4, 0, 0, 0, 0, 0, 0, 41, 4,
                2, 0, 0, 0, 0, 0, 0, 20, 2), y.digest());
    }

    private static void digestWrapsAround() {
        GemCut x = new GemCut();
        int[] told = new int[8 + 216 + 9];
        int[] counts = {216, 216, 1, 1, 0, 400, 6825, 0};
        System.arraycopy(counts, 0, told, 0, 8);
        int[] stone = {216, 0, 0, 0, 0, 0, 0, 6825, 152};
        System.arraycopy(stone, 0, told, 8 + 216, 9);
        Check.same("a new object, whose cells are all 0", Check.digestOf(told), x.digest());
        Check.same("asked once more", Check.digestOf(told), x.digest());
        GemCut y = new GemCut();
        y.take(1, 1, 1);
        Check.same("the fewest numbers", Check.digestOf(1, 1, 1, 1, 0, 400, 10, 0, 0, 1, 0, 0, 0, 0, 0, 0, 10, 1),
                y.digest());
    }
}
