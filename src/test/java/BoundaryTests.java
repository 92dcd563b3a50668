/**
 * Each sentence of the document that names a boundary, beside its "Throws" lines, which RefusalTests has: what is
 * just within and what is just beyond, what is empty and what is full. The answers were worked out by hand.
 */
public final class BoundaryTests {
    private static final int[][] SIDES = {{1, 0, 0}, {-1, 0, 0}, {0, 1, 0}, {0, -1, 0}, {0, 0, 1}, {0, 0, -1}};

    private BoundaryTests() {
    }

    public static void main(String[] args) {
        the512thCall();
        aNewObjectIsOfSix();
        theLeastRough();
        theGreatestRough();
        takingForgetsWhatIsFull();
        flawsAreNumberedFrom0();
        flawCellsAtTheRadius();
        flawCellsAtTheEndOfTheRough();
        flawWhereNothingIs();
        flawIsInByOneCell();
        flawIsOpenByOneCell();
        surfaceAtTheEndOfTheRough();
        surfaceBesideNothing();
        surfaceBesideAnotherStone();
        surfaceNotAcrossAnEdge();
        cellsOfNoStone();
        heightAtTheDepth();
        heightsOfAllPlanes();
        stonesAreNumberedWhateverIsLeft();
        anEmptyStone();
        anEmptyBench();
        planesAreNumberedFrom0();
        sawingIsNoCutting();
        touchingAtTheDepth();
        touchingOfAllPlanes();
        polishedAtFirstAndLater();
        angles();
        opposites();
        dressing();
        turnsOfCutsAndPolishing();
        turnsInAll();
        worthOfFewCells();
        worthOfManyFlaws();
        worthBesideThePoints();
        worthOfFlawsInTwoStones();
        Check.end();
    }

    private static GemCut rough(int columns, int rows, int layers) {
        GemCut x = new GemCut();
        x.take(columns, rows, layers);
        return x;
    }

    private static void counts(GemCut x, String label, int... due) {
        for (int what = 0; what < due.length; what++) {
            Check.same(label + ": count(" + what + ")", due[what], x.count(what));
        }
    }

    private static void stone(GemCut x, String label, int stone, int... due) {
        for (int what = 0; what < due.length; what++) {
            Check.same(label + ": stone(" + stone + ", " + what + ")", due[what], x.stone(stone, what));
        }
    }

    private static void plane(GemCut x, String label, int stone, int plane, int... due) {
        for (int what = 0; what < due.length; what++) {
            Check.same(label + ": plane(" + stone + ", " + plane + ", " + what + ")", due[what],
                    x.plane(stone, plane, what));
        }
    }

    private static void flawIn(GemCut x, String label, int flaw, int stone, int... due) {
        for (int what = 0; what < due.length; what++) {
            Check.same(label + ": flawIn(" + flaw + ", " + stone + ", " + what + ")", due[what],
                    x.flawIn(flaw, stone, what));
        }
    }

    private static int reach(int p, int q, int r) {
        return Math.max(Math.abs(p), Math.max(Math.abs(q), Math.abs(r)));
    }

    private interface Slope {
        void on(int p, int q, int r);
    }

    /** Each of the 342 slopes that a plane may have. */
    private static void forEachSlope(Slope test) {
        for (int p = -3; p <= 3; p++) {
            for (int q = -3; q <= 3; q++) {
                for (int r = -3; r <= 3; r++) {
                    if (p != 0 || q != 0 || r != 0) {
                        test.on(p, q, r);
                    }
                }
            }
        }
    }

    // ---- "used for at most 512 calls"

    private static void the512thCall() {
        GemCut x = new GemCut();
        for (int call = 1; call <= 511; call++) {
            Check.same("dress(), the call " + call, 400, x.dress());
        }
        Check.same("cut, the call 512", 4, x.cut(0, 1, 1, 1, 13));

        GemCut y = new GemCut();
        for (int call = 1; call <= 509; call++) {
            y.take(10, 10, 10);
        }
        y.flaw(9, 9, 9, 3, 9);
        y.saw(0, 1, 0, 0, 4);
        GemCut other = rough(10, 10, 10);
        other.flaw(9, 9, 9, 3, 9);
        other.saw(0, 1, 0, 0, 4);
        Check.same("digest(), the call 512", other.digest(), y.digest());

        GemCut z = new GemCut();
        for (int call = 1; call <= 511; call++) {
            int d = 100 + call;
            Check.same("a refused call " + call, Twins.ARGUMENT, Check.answer(() -> z.cut(0, 1, 0, 0, d)));
        }
        Check.same("count(6), the call 512", 6825, z.count(6));
    }

    // ---- promise 1

    private static void aNewObjectIsOfSix() {
        GemCut x = new GemCut();
        for (int c = 0; c < 216; c++) {
            int px = c % 6;
            int py = c / 6 % 6;
            int pz = c / 36;
            Check.same("cell(" + px + ", " + py + ", " + pz + ")", 0, x.cell(px, py, pz));
        }
        counts(x, "a new object", 216, 216, 1, 1, 0, 400, 6825, 0);
        Check.same("it is as if taken", rough(6, 6, 6).digest(), x.digest());
        Check.same("no second stone", Twins.BOUNDS, Check.answer(() -> x.stone(1, 0)));
        Check.same("no plane", Twins.BOUNDS, Check.answer(() -> x.plane(0, 0, 0)));
        Check.same("no flaw", Twins.BOUNDS, Check.answer(() -> x.flawIn(0, 0, 0)));
        Check.same("the first flaw is 0", 0, x.flaw(5, 5, 5, 0, 1));
        Check.same("the next stone is 1", 1, x.saw(0, 1, 0, 0, 4));
        Check.same("what is sawn off at the end", 36, x.stone(1, 0));
    }

    // ---- promise 2, "1 to 10 each"

    private static void theLeastRough() {
        GemCut x = new GemCut();
        Check.same("take(1, 1, 1)", 1, x.take(1, 1, 1));
        counts(x, "a single cell", 1, 1, 1, 1, 0, 400, 10, 0);
        stone(x, "a single cell", 0, 1, 0, 0, 0, 0, 0, 0, 10, 1);
        Check.same("its depth", 0, x.depth(0, 3, -3, 2));
        x.flaw(0, 0, 0, 3, 9);
        flawIn(x, "a flaw of which one cell is in the rough", 0, 0, 1, 1, 1);
        Check.same("rid of it", 0, x.rid(0, 0, 0));
        Check.same("kept", 1.0, x.kept());
        Check.same("cut of it", 1, x.cut(0, 1, 0, 0, -1));
        Check.same("kept", 0.0, x.kept());
    }

    private static void theGreatestRough() {
        GemCut x = new GemCut();
        Check.same("take(10, 10, 10)", 1000, x.take(10, 10, 10));
        counts(x, "a thousand cells", 1000, 1000, 1, 1, 0, 400, 110000, 0);
        stone(x, "a thousand cells", 0, 1000, 0, 0, 0, 0, 0, 0, 110000, 1000 - 512);
        Check.same("its last cell", 0, x.cell(9, 9, 9));
        Check.same("its greatest depth", 81, x.depth(0, 3, 3, 3));
        Check.same("a corner of it", 1, x.cut(0, 3, 3, 3, 80));
        Check.same("its last cell", -1, x.cell(9, 9, 9));
        Check.same("kept", 0.999, x.kept());
        Check.same("the other corner of it", 1, x.saw(0, -3, -3, -3, -1));
        Check.same("its first cell", 1, x.cell(0, 0, 0));
        Check.same("what is left", 998, x.stone(0, 0));
    }

    private static void takingForgetsWhatIsFull() {
        GemCut x = new GemCut();
        fill(x, new Model());
        Check.same("take of the same sides", 72, x.take(8, 3, 3));
        GemCut fresh = rough(8, 3, 3);
        Check.same("nothing is left of it", fresh.digest(), x.digest());
        workAnew(x);
        workAnew(fresh);
        Check.same("what is made of it then", fresh.digest(), x.digest());
    }

    private static void workAnew(GemCut x) {
        for (int f = 0; f < 10; f++) {
            Check.same("anew: flaw", f, x.flaw(1, 1, 1, 3, 1));
        }
        for (int s = 1; s < 8; s++) {
            Check.same("anew: saw", s, x.saw(0, 1, 0, 0, 7 - s));
        }
        for (int k = 0; k < 16; k++) {
            Check.same("anew: cut", k == 0 ? 3 : 0, x.cut(0, 0, 1, 0, 1));
        }
        stone(x, "anew: nothing is polished", 0, 6, 16, 16, 0, 0, 10, 0, 63 * 40 / 100, 6);
    }

    /**
     * Eight stones, ten flaws, sixteen planes on each stone, and too few turns for any facet: each answer is
     * compared with that of the model, and one more of each is refused.
     */
    private static void fill(GemCut x, Model m) {
        Check.same("full: take", m.take(8, 3, 3), x.take(8, 3, 3));
        for (int f = 0; f < 10; f++) {
            Check.same("full: flaw", m.flaw(f % 8, f % 3, f / 4, f % 4, 1 + f % 9),
                    x.flaw(f % 8, f % 3, f / 4, f % 4, 1 + f % 9));
        }
        for (int d = 6; d >= 0; d--) {
            Check.same("full: saw", m.saw(0, 1, 0, 0, d), x.saw(0, 1, 0, 0, d));
        }
        for (int k = 0; k < 128; k++) {
            // the first eight take a corner of each stone, the others nothing
            int d = k < 8 ? 3 : k % 16 < 8 ? 3 + k / 40 : 0;
            int sign = k % 16 < 8 ? 1 : -1;
            Check.same("full: cut " + k, m.cut(k % 8, 0, sign, sign, d), x.cut(k % 8, 0, sign, sign, d));
        }
        for (int k = 0; k < 128; k++) {
            int s = k % 8;
            int plane = k / 8;
            Check.same("full: polish " + k, Check.answer(() -> m.polish(s, plane)),
                    Check.answer(() -> x.polish(s, plane)));
        }
        Check.same("full: too few turns for any facet", true, x.count(5) < 6);
        Check.same("full: stones", 8, x.count(2));
        Check.same("full: flaws", 10, x.count(4));
        Check.same("full: an eleventh flaw", Twins.STATE, Check.answer(() -> x.flaw(0, 0, 0, 0, 1)));
        for (int s = 0; s < 8; s++) {
            Check.same("full: planes of " + s, 16, x.stone(s, 1));
            Check.same("full: a seventeenth plane of " + s, Twins.STATE, answerOfCut(x, s));
            Check.same("full: a ninth stone, of " + s, Twins.STATE, answerOfSaw(x, s));
        }
        Check.same("full: digest", m.digest(), x.digest());
        for (int s = 0; s < 8; s++) {
            Check.same("full: would of " + s, m.would(s, 0, -1, -1, -1, 1), x.would(s, 0, -1, -1, -1, 1));
            Check.same("full: depth of " + s, m.depth(s, 0, -1, -1), x.depth(s, 0, -1, -1));
            Check.same("full: rid of " + s, m.rid(9, s, 1), x.rid(9, s, 1));
        }
    }

    private static String answerOfSaw(GemCut x, int stone) {
        return Check.answer(() -> x.saw(stone, 0, 1, 0, 0));
    }

    private static String answerOfCut(GemCut x, int stone) {
        return Check.answer(() -> x.cut(stone, 1, 0, 0, 100));
    }

    // ---- promise 3, "numbered from 0", "at most the radius", "those of the rough"

    private static void flawsAreNumberedFrom0() {
        GemCut x = rough(2, 2, 2);
        for (int f = 0; f < 10; f++) {
            Check.same("the flaw " + f, f, x.flaw(1, 1, 1, 0, 9));
            Check.same("flaws then", f + 1, x.count(4));
            Check.same("open flaws then", f + 1, x.stone(0, 5));
        }
        Check.same("an eleventh", Twins.STATE, Check.answer(() -> x.flaw(1, 1, 1, 0, 9)));
        Check.same("flaws still", 10, x.count(4));
        flawIn(x, "the last one", 9, 0, 1, 1, 1);
    }

    /** Beyond its radius a flaw has no cell; at it, it has one by a side, R + 1 by an edge, and so on by a corner. */
    private static void flawCellsAtTheRadius() {
        int[] whole = {1, 7, 25, 63};
        for (int radius = 0; radius <= 3; radius++) {
            for (int p = -1; p <= 1; p++) {
                for (int q = -1; q <= 1; q++) {
                    for (int r = -1; r <= 1; r++) {
                        int ways = Math.abs(p) + Math.abs(q) + Math.abs(r);
                        int[] atRadius = {0, 1, radius + 1, (radius + 1) * (radius + 2) / 2};
                        if (ways > 0) {
                            sawBesideFlaw(radius, p, q, r, whole[radius], atRadius[ways]);
                        }
                    }
                }
            }
        }
    }

    private static void sawBesideFlaw(int radius, int p, int q, int r, int whole, int atRadius) {
        String label = "radius " + radius + " by the plane " + p + ", " + q + ", " + r;
        GemCut x = rough(9, 9, 9);
        x.flaw(4, 4, 4, radius, 1);
        flawIn(x, label + ", unsawn", 0, 0, whole, 0, 0);
        int height = 4 * (p + q + r);
        x.saw(0, p, q, r, height + radius);
        flawIn(x, label + ", beyond the radius", 0, 1, 0, 0, -1);
        flawIn(x, label + ", what stays", 0, 0, whole, atRadius, 1);
        x.saw(0, p, q, r, height + radius - 1);
        flawIn(x, label + ", at the radius", 0, 2, atRadius, atRadius, 1);
        Check.same(label + ", the rest", whole - atRadius, x.flawIn(0, 0, 0));
    }

    private static void flawCellsAtTheEndOfTheRough() {
        int[] octant = {1, 4, 10, 20};
        for (int radius = 0; radius <= 3; radius++) {
            GemCut x = rough(9, 9, 9);
            for (int corner = 0; corner < 8; corner++) {
                x.flaw(corner % 2 * 8, corner / 2 % 2 * 8, corner / 4 * 8, radius, 1);
                Check.same("radius " + radius + " in the corner " + corner, octant[radius],
                        x.flawIn(corner, 0, 0));
            }
        }
        int[] inRod = {1, 2, 3, 4};
        for (int radius = 0; radius <= 3; radius++) {
            GemCut x = rough(1, 5, 1);
            x.flaw(0, 0, 0, radius, 1);
            x.flaw(0, 4, 0, radius, 1);
            Check.same("radius " + radius + " at the first end of a rod", inRod[radius], x.flawIn(0, 0, 0));
            Check.same("radius " + radius + " at the last end of a rod", inRod[radius], x.flawIn(1, 0, 0));
        }
        GemCut y = rough(1, 1, 4);
        y.flaw(0, 0, 0, 3, 1);
        Check.same("radius 3 just reaches the end", 4, y.flawIn(0, 0, 0));
    }

    /** "Such a cell in the rough" is also one that is gone. */
    private static void flawWhereNothingIs() {
        GemCut x = rough(5, 1, 1);
        x.cut(0, 1, 0, 0, 2);
        Check.same("a flaw that reaches the stone", 0, x.flaw(4, 0, 0, 2, 1));
        flawIn(x, "a flaw that reaches the stone", 0, 0, 1, 1, 1);
        Check.same("a flaw that doesn't", 1, x.flaw(4, 0, 0, 1, 1));
        flawIn(x, "a flaw that doesn't", 1, 0, 0, 0, -1);
        stone(x, "only the first counts", 0, 3, 1, 1, 0, 0, 1, 0, 30 * 94 / 100, 3);
    }

    // ---- promise 5, "at least one of its cells", "one of these is at the surface"

    private static void flawIsInByOneCell() {
        GemCut x = rough(7, 7, 7);
        x.flaw(3, 3, 3, 2, 1);
        x.saw(0, 0, 1, 0, 4);
        flawIn(x, "one cell is in the new stone", 0, 1, 1, 1, 1);
        flawIn(x, "the others are not", 0, 0, 24, 5, 1);
        Check.same("rid of the one", 7 * 7, x.rid(0, 1, 2));
        x.cut(1, 0, -1, 0, -6);
        flawIn(x, "it is cut off", 0, 1, 0, 0, -1);
        Check.same("no flaw in the new stone", 0, x.stone(1, 5) + x.stone(1, 6));
    }

    private static void flawIsOpenByOneCell() {
        GemCut x = rough(9, 9, 9);
        x.flaw(4, 4, 4, 3, 1);
        flawIn(x, "no cell is at the end of the rough", 0, 0, 63, 0, 0);
        x.flaw(3, 4, 4, 3, 1);
        flawIn(x, "one cell is", 1, 0, 63, 1, 1);
        x.flaw(4, 4, 5, 3, 1);
        flawIn(x, "one cell is at the other end", 2, 0, 63, 1, 1);
        x.flaw(4, 5, 4, 2, 1);
        flawIn(x, "one less of radius", 3, 0, 25, 0, 0);
        Check.same("open ones", 2, x.stone(0, 5));
        Check.same("hidden ones", 2, x.stone(0, 6));
        Check.same("one cell comes to light", 9 * 9, x.cut(0, 0, 1, 0, 7));
        flawIn(x, "a tip beside nothing", 0, 0, 63, 1, 1);
        flawIn(x, "another tip beside nothing", 3, 0, 25, 1, 1);
    }

    // ---- "has a side where no cell of the same stone is (another stone, nothing, or the end of the rough)"

    private static void surfaceAtTheEndOfTheRough() {
        for (int[] side : SIDES) {
            GemCut x = rough(3, 3, 3);
            x.flaw(1, 1, 1, 0, 1);
            x.flaw(1 + side[0], 1 + side[1], 1 + side[2], 0, 1);
            flawIn(x, "the midst", 0, 0, 1, 0, 0);
            flawIn(x, "the midst of a side", 1, 0, 1, 1, 1);
        }
        Check.same("all but the midst of 3 * 3 * 3", 26, rough(3, 3, 3).stone(0, 8));
        Check.same("all of 2 * 10 * 10", 200, rough(2, 10, 10).stone(0, 8));
        Check.same("all but 8 * 8 of 3 * 10 * 10", 236, rough(3, 10, 10).stone(0, 8));
        Check.same("all of 10 * 1 * 10", 100, rough(10, 1, 10).stone(0, 8));
    }

    private static void surfaceBesideNothing() {
        for (int[] side : SIDES) {
            int height = 2 * (side[0] + side[1] + side[2]);
            GemCut x = rough(5, 5, 5);
            x.flaw(2, 2, 2, 0, 1);
            x.cut(0, side[0], side[1], side[2], height + 1);
            flawIn(x, "the cell beside it is there", 0, 0, 1, 0, 0);
            Check.same("it is hidden", 1, x.stone(0, 6));
            x.cut(0, side[0], side[1], side[2], height);
            flawIn(x, "the cell beside it is gone", 0, 0, 1, 1, 1);
            Check.same("it is open", 1, x.stone(0, 5));
        }
    }

    private static void surfaceBesideAnotherStone() {
        for (int[] side : SIDES) {
            int height = 2 * (side[0] + side[1] + side[2]);
            GemCut x = rough(5, 5, 5);
            x.flaw(2, 2, 2, 0, 1);
            x.flaw(2 + side[0], 2 + side[1], 2 + side[2], 0, 1);
            x.saw(0, side[0], side[1], side[2], height + 1);
            flawIn(x, "the cell beside it is the same stone's", 0, 0, 1, 0, 0);
            flawIn(x, "that one is beside another stone's", 1, 0, 1, 1, 1);
            x.saw(0, side[0], side[1], side[2], height);
            flawIn(x, "the cell beside it is another stone's", 0, 0, 1, 1, 1);
            flawIn(x, "in the new stone it is beside another one's too", 1, 2, 1, 1, 1);
        }
        GemCut y = rough(4, 4, 4);
        y.saw(0, 1, 0, 0, 1);
        Check.same("two layers are all surface", 32, y.stone(0, 8));
        Check.same("the other two too", 32, y.stone(1, 8));
    }

    private static void surfaceNotAcrossAnEdge() {
        GemCut x = rough(5, 5, 5);
        x.flaw(2, 2, 2, 0, 1);
        Check.same("3, 3, 3 goes", 20, x.cut(0, 1, 1, 1, 8));
        flawIn(x, "the cell across a corner is gone", 0, 0, 1, 0, 0);
        Check.same("3, 3, 2 goes", 15, x.cut(0, 1, 1, 1, 7));
        flawIn(x, "the cells across an edge are gone", 0, 0, 1, 0, 0);
        Check.same("3, 2, 2 goes", 18, x.cut(0, 1, 1, 1, 6));
        flawIn(x, "the cells side by side are gone", 0, 0, 1, 1, 1);
    }

    // ---- promise 4, "belongs to one stone, or is gone"

    private static void cellsOfNoStone() {
        GemCut x = rough(3, 2, 1);
        x.cut(0, 1, 1, 0, 2);
        Check.same("beneath the plane", 0, x.cell(2, 0, 0));
        Check.same("above it", -1, x.cell(2, 1, 0));
        x.saw(0, 1, 0, 0, 1);
        Check.same("of the new stone", 1, x.cell(2, 0, 0));
        Check.same("gone, not of the new stone", -1, x.cell(2, 1, 0));
        Check.same("its weight", 1, x.stone(1, 0));
        Check.same("what is gone is not cut again", 1, x.cut(1, 1, 0, 0, -100));
        Check.same("gone", -1, x.cell(2, 0, 0));
        Check.same("no other stone is cut", 4, x.stone(0, 0));
    }

    // ---- promise 7, "whose height is greater than d"

    private static void heightAtTheDepth() {
        for (int axis = 0; axis < 3; axis++) {
            for (int steep = -3; steep <= 3; steep++) {
                if (steep != 0) {
                    cutOfRod(axis, steep);
                }
            }
        }
    }

    private static void cutOfRod(int axis, int steep) {
        int[] sides = {1, 1, 1};
        sides[axis] = 10;
        int[] slope = {0, 0, 0};
        slope[axis] = steep;
        int[] at = {0, 0, 0};
        at[axis] = 5;
        String label = "a rod along " + axis + ", steep by " + steep;
        GemCut x = rough(sides[0], sides[1], sides[2]);
        Check.same(label + ": cut above the height of the sixth cell", steep > 0 ? 4 : 5,
                x.cut(0, slope[0], slope[1], slope[2], 5 * steep));
        Check.same(label + ": at the depth it stays", 0, x.cell(at[0], at[1], at[2]));
        Check.same(label + ": cut a bit deeper", 1, x.cut(0, slope[0], slope[1], slope[2], 5 * steep - 1));
        Check.same(label + ": above the depth it goes", -1, x.cell(at[0], at[1], at[2]));
    }

    private static void heightsOfAllPlanes() {
        forEachSlope((p, q, r) -> {
            GemCut x = rough(10, 10, 10);
            int high = 9 * (Math.max(p, 0) + Math.max(q, 0) + Math.max(r, 0));
            int low = 9 * (Math.min(p, 0) + Math.min(q, 0) + Math.min(r, 0));
            int atEnd = (p == 0 ? 10 : 1) * (q == 0 ? 10 : 1) * (r == 0 ? 10 : 1);
            String label = "by the plane " + p + ", " + q + ", " + r;
            Check.same(label + " at the highest", 0, x.would(0, p, q, r, high, 0));
            Check.same(label + " beneath the highest", atEnd, x.would(0, p, q, r, high - 1, 0));
            Check.same(label + " at the lowest", 1000 - atEnd, x.would(0, p, q, r, low, 0));
            Check.same(label + " beneath the lowest", 1000, x.would(0, p, q, r, low - 1, 0));
            Check.same(label + " at the greatest depth", 0, x.would(0, p, q, r, 100, 0));
            Check.same(label + " at the least depth", 1000, x.would(0, p, q, r, -100, 0));
            Check.same(label + " the best depth is the highest", high, x.depth(0, p, q, r));
        });
    }

    // ---- "at most 8, numbered likewise (also those of which nothing is left)"

    private static void stonesAreNumberedWhateverIsLeft() {
        GemCut x = rough(9, 1, 1);
        for (int s = 1; s < 8; s++) {
            Check.same("the stone " + s, s, x.saw(0, 1, 0, 0, 8 - s));
            Check.same("it has the cell", s, x.cell(9 - s, 0, 0));
            Check.same("cut of it", 1, x.cut(s, 1, 0, 0, -1));
            Check.same("stones", s + 1, x.count(2));
            Check.same("stones of which something is left", 1, x.count(3));
        }
        Check.same("no room beside seven empty ones", Twins.STATE, Check.answer(() -> x.saw(0, 1, 0, 0, 0)));
        Check.same("what is left", 2, x.stone(0, 0));
        Check.same("all of it goes", 2, x.cut(0, 1, 0, 0, -1));
        counts(x, "nothing is left", 9, 0, 8, 0, 0, 400 - 27, 0, 27);
    }

    private static void anEmptyStone() {
        GemCut x = rough(3, 2, 1);
        x.flaw(2, 1, 0, 0, 9);
        x.flaw(0, 0, 0, 0, 1);
        x.cut(0, 1, 0, 0, 1);
        x.polish(0, 0);
        x.cut(0, -1, 0, 0, 0);
        x.saw(0, 0, 1, 0, 0);
        // 2 cells: 20 of which 94 parts, and 25, and 40
        stone(x, "before", 0, 2, 2, 2, 1, 1, 1, 0, 18 + 25 + 40, 2);
        x.cut(0, 1, 0, 0, -1);
        stone(x, "empty", 0, 0, 3, 0, 0, 0, 0, 0, 0, 0);
        plane(x, "empty, polished", 0, 0, 1, 0, 0, 1, 0, 1);
        plane(x, "empty, not polished", 0, 1, -1, 0, 0, 0, 0, 0);
        plane(x, "empty, the last plane", 0, 2, 1, 0, 0, -1, 0, 0);
        Check.same("empty: angle", -100, x.angle(0, 0, 1));
        flawIn(x, "empty", 1, 0, 0, 0, -1);
        for (int what = 0; what < 4; what++) {
            Check.same("empty: would at the least depth, " + what, 0, x.would(0, -1, 0, 0, -100, what));
            Check.same("empty: would at the greatest depth, " + what, 0, x.would(0, -1, 0, 0, 100, what));
        }
        Check.same("empty: rid of 0", -1, x.rid(1, 0, 0));
        Check.same("empty: rid of 1", -1000, x.rid(1, 0, 1));
        Check.same("empty: rid of 2", -1, x.rid(1, 0, 2));
        Check.same("empty: cut", 0, x.cut(0, 0, 0, 1, -100));
        Check.same("empty: it keeps the plane", 4, x.stone(0, 1));
        // 6 and 7 turns for the first facet, and 6 for what was left
        counts(x, "one is empty", 6, 2, 2, 1, 2, 400 - 6 - 7 - 6, 20, 19);
        Check.same("the next stone is not the empty one", 2, x.saw(1, 1, 0, 0, 0));
    }

    private static void anEmptyBench() {
        GemCut x = rough(2, 1, 1);
        x.flaw(0, 0, 0, 3, 9);
        x.cut(0, 1, 0, 0, -1);
        counts(x, "nothing is left", 2, 0, 1, 0, 1, 394, 0, 6);
        Check.same("nothing is kept", 0.0, x.kept());
        Check.same("cells are gone", -2, x.cell(0, 0, 0) + x.cell(1, 0, 0));
        Check.same("a flaw of it", 1, x.flaw(1, 0, 0, 3, 9));
        flawIn(x, "a flaw of it", 1, 0, 0, 0, -1);
        // the counts, two cells that are gone, one stone with one plane, two flaws
        int[] told = {2, 0, 1, 0, 2, 394, 0, 6, -1, -1, 0, 1, 0, 0, 0, 0, 0, 0, 0, 1, 0, 0, -1, 0, 0,
            0, 0, -1, 0, 0, -1};
        Check.same("digest of nothing", Check.digestOf(told), x.digest());
    }

    // ---- "keeps the planes by which it was cut, at most 16, numbered from 0", "the new stone has none"

    private static void planesAreNumberedFrom0() {
        GemCut x = rough(2, 2, 2);
        for (int k = 0; k < 16; k++) {
            Check.same("planes before", k, x.stone(0, 1));
            x.cut(0, 1, 0, 0, 100 - k);
        }
        for (int k = 0; k < 16; k++) {
            plane(x, "plane " + k, 0, k, 1, 0, 0, 100 - k, 0, 0);
        }
        Check.same("a seventeenth", Twins.STATE, Check.answer(() -> x.cut(0, 1, 0, 0, 84)));
        Check.same("planes still", 16, x.stone(0, 1));
    }

    private static void sawingIsNoCutting() {
        GemCut x = rough(2, 2, 2);
        for (int k = 0; k < 16; k++) {
            x.cut(0, 0, 0, 1, 1);
        }
        x.polish(0, 15);
        int turns = x.count(5);
        Check.same("a stone that keeps 16 planes can be sawn", 1, x.saw(0, 1, 0, 0, 0));
        Check.same("no turns", turns, x.count(5));
        stone(x, "it keeps them", 0, 4, 16, 16, 1, 0, 0, 0, 41 + 25, 4);
        stone(x, "the new one has none", 1, 4, 0, 0, 0, 0, 0, 0, 41, 4);
        Check.same("a cut of the new one by nothing", 0, x.cut(1, 0, 1, 0, 1));
        plane(x, "its own plane, not polished", 1, 0, 0, 1, 0, 1, 2, 0);
        for (int k = 1; k < 16; k++) {
            Check.same("it has room for 16", k == 1 ? 2 : 0, x.cut(1, 0, 1, 0, 0));
        }
        Check.same("a seventeenth", Twins.STATE, answerOfCut(x, 1));
        stone(x, "the first one keeps its own", 0, 4, 16, 16, 1, 0, 0, 0, 41 + 25, 4);
        int[] lefts = {0, 2};
        for (int left : lefts) {
            GemCut y = new GemCut();
            Benches.turnsLeft(y, left);
            Check.same("sawing with " + left + " turns", 1, y.saw(0, 1, 0, 0, 4));
            Check.same("half of it", 500, y.stone(1, 0));
            Check.same("the turns stay", left, y.count(5));
            Check.same("sawing once more", 2, y.saw(1, 0, 0, 1, 8));
            Check.same("the turns that were spent", 400 - left, y.count(7));
        }
    }

    // ---- "are greater than d together", "the greatest of p, q, r, without their signs"

    private static void touchingAtTheDepth() {
        forEachSlope((p, q, r) -> {
            int reach = reach(p, q, r);
            for (int d = 0; d <= 4; d++) {
                GemCut x = rough(1, 1, 1);
                x.cut(0, p, q, r, d);
                String label = "a single cell by the plane " + p + ", " + q + ", " + r + ", " + d;
                int touching = reach > d ? 1 : 0;
                plane(x, label, 0, 0, p, q, r, d, touching, 0);
                Check.same(label + ": facets", touching, x.stone(0, 2));
                Check.same(label + ": polish", touching == 1 ? "6" : Twins.STATE,
                        Check.answer(() -> x.polish(0, 0)));
            }
        });
    }

    private static void touchingOfAllPlanes() {
        forEachSlope((p, q, r) -> {
            int high = 2 * (Math.max(p, 0) + Math.max(q, 0) + Math.max(r, 0));
            int atEnd = (p == 0 ? 3 : 1) * (q == 0 ? 3 : 1) * (r == 0 ? 3 : 1);
            int reach = reach(p, q, r);
            GemCut x = rough(3, 3, 3);
            x.cut(0, p, q, r, high + reach - 1);
            x.cut(0, p, q, r, high + reach);
            String label = "the highest cells by the plane " + p + ", " + q + ", " + r;
            Check.same(label + " just touch", atEnd, x.plane(0, 0, 4));
            Check.same(label + " just don't", 0, x.plane(0, 1, 4));
            Check.same(label + ": facets", 1, x.stone(0, 2));
        });
    }

    // ---- "not, at first", "polished it stays so, facet or not"

    private static void polishedAtFirstAndLater() {
        GemCut x = rough(4, 2, 2);
        x.cut(0, 1, 0, 0, 3);
        Check.same("not at first", 0, x.plane(0, 0, 5));
        Check.same("4 and 5 turns", 9, x.polish(0, 0));
        Check.same("polished", 1, x.plane(0, 0, 5));
        Check.same("no less for a second time", Twins.STATE, Check.answer(() -> x.polish(0, 0)));
        x.cut(0, 1, 0, 0, 3);
        Check.same("the same plane once more is not", 0, x.plane(0, 1, 5));
        stone(x, "two facets, one of them polished", 0, 16, 2, 2, 1, 0, 0, 0, 185 + 25, 16);
        x.cut(0, 1, 0, 0, 2);
        stone(x, "they are no facets now", 0, 12, 3, 1, 0, 0, 0, 0, 134, 12);
        Check.same("polished still", 1, x.plane(0, 0, 5));
        Check.same("still not", 0, x.plane(0, 1, 5));
        x.cut(0, 1, 0, 0, -1);
        Check.same("polished, though nothing is left", 1, x.plane(0, 0, 5));
        x.take(4, 2, 2);
        x.cut(0, 1, 0, 0, 3);
        Check.same("not at first, of another rough", 0, x.plane(0, 0, 5));
    }

    // ---- promise 12, "less than 0, if the product is", "/ is cut towards 0"

    private static void angles() {
        int[][] due = {
            // both planes and their angle
            {1, 0, 0, 1, 0, 0, 100}, {1, 0, 0, -1, 0, 0, -100}, {1, 1, 1, 3, 3, 3, 100}, {-3, 3, 0, 2, -2, 0, -100},
            {3, 3, 3, 3, 3, 3, 100}, {3, 3, 3, -3, -3, -3, -100},
            {1, 0, 0, 0, 1, 0, 0}, {1, 2, 3, 3, 0, -1, 0}, {3, 3, -2, 1, 1, 3, 0},
            // a product of 1 or -1 over 100, 90, 140, 143 and 182
            {3, 1, 0, 0, 1, 3, 1}, {3, 1, 0, 0, -1, 3, -1}, {3, 1, 0, 1, -2, 2, 1}, {3, 1, 0, -1, 2, 2, -1},
            {3, 1, 0, 1, -2, 3, 0}, {3, 1, 0, -1, 2, 3, 0}, {3, 2, 0, 1, -1, 3, 0}, {3, 2, 0, 1, -2, 3, 0},
            // 19600 / 198 is 98 and more; 57600 / 594 is 96 and more
            {3, 3, 2, 2, 2, 1, 98}, {3, 3, 2, -2, -2, -1, -98}, {3, 3, 2, 3, 3, 3, 96}, {-3, -3, -2, 3, 3, 3, -96},
        };
        for (int[] k : due) {
            GemCut x = rough(1, 1, 1);
            x.cut(0, k[0], k[1], k[2], 100);
            x.cut(0, k[3], k[4], k[5], 100);
            String label = k[0] + ", " + k[1] + ", " + k[2] + " to " + k[3] + ", " + k[4] + ", " + k[5];
            Check.same(label, k[6], x.angle(0, 0, 1));
            Check.same(label + ", the other way", k[6], x.angle(0, 1, 0));
            Check.same(label + ", the first to itself", 100, x.angle(0, 0, 0));
            Check.same(label + ", the second to itself", 100, x.angle(0, 1, 1));
        }
    }

    // ---- "opposite, if each of p, q, r of one is that of the other one with the other sign"

    private static void opposites() {
        int[][] due = {
            {1, 0, 0, -1, 0, 0, 1}, {1, 0, 0, -2, 0, 0, 0}, {1, 0, 0, 1, 0, 0, 0}, {0, 3, 0, 0, -3, 0, 1},
            {1, 2, -3, -1, -2, 3, 1}, {1, 2, -3, 1, -2, 3, 0}, {1, 2, -3, -1, 2, 3, 0}, {1, 2, -3, -1, -2, -3, 0},
            {1, 2, -3, -2, -1, 3, 0}, {0, 0, 1, 0, 1, -1, 0}, {2, 2, 2, -1, -1, -1, 0}, {0, 1, 1, 0, -1, -1, 1},
        };
        for (int[] k : due) {
            GemCut x = rough(1, 1, 1);
            x.cut(0, k[0], k[1], k[2], 0);
            Check.same("one alone is no pair", 0, x.stone(0, 4));
            String label = k[0] + ", " + k[1] + ", " + k[2] + " and " + k[3] + ", " + k[4] + ", " + k[5];
            Check.same(label + ": would", k[6], x.would(0, k[3], k[4], k[5], 0, 3));
            x.cut(0, k[3], k[4], k[5], 0);
            Check.same(label + ": both are facets", 2, x.stone(0, 2));
            Check.same(label, k[6], x.stone(0, 4));
            Check.same(label + ": worth", 10 + 40 * k[6], x.stone(0, 7));
        }
        GemCut y = rough(1, 1, 1);
        y.cut(0, 1, 0, 0, 1);
        y.cut(0, -1, 0, 0, 0);
        Check.same("the first is no facet", 0, y.stone(0, 4));
        Check.same("with one that is just a facet", 1, y.would(0, 1, 0, 0, 0, 3));
        Check.same("with one that is just none", 0, y.would(0, 1, 0, 0, 1, 3));
        y.polish(0, 1);
        y.cut(0, 1, 0, 0, 0);
        Check.same("a pair, polished or not", 10 + 25 + 40, y.stone(0, 7));
        GemCut z = rough(1, 1, 1);
        for (int k = 0; k < 16; k++) {
            z.cut(0, 0, 0, k % 2 == 0 ? 1 : -1, 0);
        }
        Check.same("each pair of sixteen", 64, z.stone(0, 4));
        Check.same("their worth", 10 + 64 * 40, z.stone(0, 7));
    }

    // ---- promise 9, "400 turns (at first; at most)"

    private static void dressing() {
        GemCut x = new GemCut();
        Check.same("at first", 400, x.count(5));
        Check.same("of a full wheel", 400, x.dress());
        Check.same("at most", 400, x.count(5));
        Check.same("one cell", 1, x.cut(0, 1, 1, 1, 14));
        Check.same("of 397", 397, x.dress());
        Check.same("all of it again", 400, x.count(5));
        GemCut y = new GemCut();
        Benches.turnsLeft(y, 0);
        Check.same("of an empty wheel", 0, y.dress());
        Check.same("all of it again", 400, y.count(5));
        Check.same("a cut is taken again", 100, y.cut(0, 0, 0, 1, 8));
        GemCut z = new GemCut();
        Benches.turnsLeft(z, 2);
        z.take(1, 1, 1);
        Check.same("another rough dresses it", 400, z.count(5));
    }

    // ---- "as many turns as cells are taken away, times 3", "as many as touch it, and 5"

    private static void turnsOfCutsAndPolishing() {
        GemCut x = rough(5, 4, 1);
        x.cut(0, 1, 0, 0, 4);
        counts(x, "nothing was cut off", 20, 20, 1, 1, 0, 400, 240, 0);
        x.cut(0, 1, 1, 0, 6);
        counts(x, "one cell was", 20, 19, 1, 1, 0, 397, 36 + 190, 3);
        Check.same("two cells touch", 7, x.polish(0, 1));
        counts(x, "it was polished", 20, 19, 1, 1, 0, 390, 36 + 190 + 25, 10);
        Check.same("three cells touch", 8, x.polish(0, 0));
        counts(x, "the other too", 20, 19, 1, 1, 0, 382, 36 + 190 + 50, 18);
    }

    // ---- promise 13, "turns that were spent on this rough, in all"

    private static void turnsInAll() {
        GemCut x = rough(10, 10, 10);
        int[] layers = {8, 7, 6};
        for (int k = 0; k < 3; k++) {
            x.cut(0, 0, 0, 1, layers[k]);
            Check.same("spent", 300 * (k + 1), x.count(7));
            Check.same("refused", Twins.STATE, answerOfLayer(x, layers[k] - 1));
            Check.same("still spent", 300 * (k + 1), x.count(7));
            Check.same("had", 100, x.dress());
            Check.same("dressing spends nothing", 300 * (k + 1), x.count(7));
        }
        x.saw(0, 1, 0, 0, 4);
        x.would(0, 1, 0, 0, 2, 1);
        x.depth(0, 1, 1, 1);
        Check.same("sawing and asking spend nothing", 900, x.count(7));
        x.take(10, 10, 10);
        Check.same("on another rough", 0, x.count(7));
    }

    private static String answerOfLayer(GemCut x, int d) {
        return Check.answer(() -> x.cut(0, 0, 0, 1, d));
    }

    // ---- "Worth of a stone"

    private static void worthOfFewCells() {
        // w * w / 10 and 10 * w, each cut towards 0
        int[] due = {10, 20, 30, 41, 52, 63, 74, 86, 98, 110};
        for (int w = 1; w <= 10; w++) {
            Check.same("worth of " + w + " cells", due[w - 1], rough(1, w, 1).stone(0, 7));
        }
        GemCut x = rough(10, 1, 1);
        for (int w = 9; w >= 1; w--) {
            Check.same("would be worth with " + w, due[w - 1], x.would(0, 1, 0, 0, w - 1, 1));
            x.cut(0, -1, 0, 0, w - 10);
            Check.same("worth with " + w, due[w - 1], x.stone(0, 7));
            x.take(10, 1, 1);
        }
        Check.same("would be worth with none", 0, x.would(0, 1, 0, 0, -1, 1));
    }

    /** "with at least 10 instead of what is less" */
    private static void worthOfManyFlaws() {
        int[][] severities = {{9, 5}, {9, 6}, {9, 7}, {9, 9, 9, 9, 9, 9, 9, 9, 9, 9}};
        int[] open = {16, 10, 10, 10};
        for (int k = 0; k < severities.length; k++) {
            GemCut x = rough(10, 10, 10);
            for (int s : severities[k]) {
                x.flaw(0, 0, 0, 3, s);
            }
            Check.same("100 less 6 times the flaws " + k, 1100 * open[k], x.stone(0, 7));
            Check.same("they would be so", 1100 * open[k], x.would(0, 1, 0, 0, 9, 1));
        }
        int[][] inside = {{9, 9, 9, 9, 8}, {9, 9, 9, 9, 9}, {9, 9, 9, 9, 9, 1}, {9, 9, 9, 9, 9, 9, 9, 9, 9, 9}};
        int[] hidden = {12, 10, 10, 10};
        for (int k = 0; k < inside.length; k++) {
            GemCut x = rough(10, 10, 10);
            for (int s : inside[k]) {
                x.flaw(4, 4, 4, 3, s);
            }
            Check.same("100 less 2 times the flaws " + k, 1100 * hidden[k], x.stone(0, 7));
            Check.same("they would be so", 1100 * hidden[k], x.would(0, 1, 0, 0, 9, 1));
        }
        for (int severity = 1; severity <= 9; severity++) {
            GemCut x = rough(10, 10, 10);
            x.flaw(4, 4, 4, 0, severity);
            Check.same("hidden, " + severity, 1100 * (100 - 2 * severity), x.stone(0, 7));
            x.flaw(0, 4, 4, 0, severity);
            Check.same("and open, " + severity, 1100 * (100 - 8 * severity), x.stone(0, 7));
        }
        // 10 of which 94 parts are 9 and more, and of which 10 parts are 1
        GemCut y = rough(1, 1, 1);
        y.flaw(0, 0, 0, 0, 1);
        Check.same("cut towards 0", 9, y.stone(0, 7));
    }

    private static void worthBesideThePoints() {
        GemCut x = rough(1, 1, 1);
        for (int f = 0; f < 10; f++) {
            x.flaw(0, 0, 0, 0, 9);
        }
        Check.same("10 parts of 10", 1, x.stone(0, 7));
        x.cut(0, 1, 0, 0, 0);
        Check.same("a facet", 1, x.stone(0, 7));
        x.polish(0, 0);
        Check.same("a polished one", 26, x.stone(0, 7));
        Check.same("with its opposite", 66, x.would(0, -1, 0, 0, 0, 1));
        x.cut(0, -1, 0, 0, 0);
        Check.same("with its opposite", 66, x.stone(0, 7));
        x.cut(0, 0, 1, 0, 1);
        Check.same("with a plane that is no facet", 66, x.stone(0, 7));
        Check.same("all flaws are open", 10, x.would(0, 1, 0, 0, 0, 2));
        x.cut(0, 1, 0, 0, -1);
        Check.same("without cells", 0, x.stone(0, 7));
    }

    private static void worthOfFlawsInTwoStones() {
        GemCut x = rough(6, 5, 5);
        x.flaw(2, 2, 2, 1, 5);
        Check.same("hidden in one", (2250 + 1500) * 90 / 100, x.stone(0, 7));
        x.saw(0, 1, 0, 0, 2);
        // 75 cells each: 562 + 750
        Check.same("open in the one", 1312 * 70 / 100, x.stone(0, 7));
        Check.same("and open in the other one", 1312 * 70 / 100, x.stone(1, 7));
        Check.same("of all", 2 * (1312 * 70 / 100), x.count(6));
        GemCut y = rough(6, 5, 5);
        y.flaw(2, 2, 2, 1, 5);
        y.saw(0, 1, 0, 0, 3);
        Check.same("open in the one alone", (1000 + 1000) * 70 / 100, y.stone(0, 7));
        Check.same("not in the other one", 250 + 500, y.stone(1, 7));
    }
}
