/** Each promise by itself; the answers were worked out by hand from the document. */
public final class PromiseTests {
    private static final int LEAST = Integer.MIN_VALUE;
    private static final int MOST = Integer.MAX_VALUE;

    private PromiseTests() {
    }

    public static void main(String[] args) {
        aNewObject();
        taking();
        takingForgetsAll();
        tellingFlaws();
        cellsOfFlaws();
        surfaceOfEachSide();
        cells();
        flawsInStones();
        sawing();
        sawingUpToEight();
        cutting();
        cuttingUpToSixteen();
        wheelOfCuts();
        polishing();
        wheelToTheLastTurn();
        dressing();
        stones();
        worth();
        opposites();
        planes();
        angles();
        counts();
        wouldBe();
        wouldBeFacets();
        wouldBeOpen();
        wouldBeFarOff();
        wouldBeBeyondTheLimits();
        depths();
        depthsOfFacets();
        ridding();
        riddingEachWay();
        riddingOfParts();
        kept();
        digest();
        theExampleOfTheReadme();
        Check.end();
    }

    private static GemCut rough(int columns, int rows, int layers) {
        GemCut x = new GemCut();
        x.take(columns, rows, layers);
        return x;
    }

    private static void counts(GemCut x, String label, int... due) {
        for (int what = 0; what < due.length; what++) {
            Check.same(label + ": count(" + what + ")", due[what], x.count(what));
        }
    }

    private static void stone(GemCut x, String label, int stone, int... due) {
        for (int what = 0; what < due.length; what++) {
            Check.same(label + ": stone(" + stone + ", " + what + ")", due[what], x.stone(stone, what));
        }
    }

    private static void plane(GemCut x, String label, int stone, int plane, int... due) {
        for (int what = 0; what < due.length; what++) {
            Check.same(label + ": plane(" + stone + ", " + plane + ", " + what + ")", due[what],
                    x.plane(stone, plane, what));
        }
    }

    private static void flawIn(GemCut x, String label, int flaw, int stone, int... due) {
        for (int what = 0; what < due.length; what++) {
            Check.same(label + ": flawIn(" + flaw + ", " + stone + ", " + what + ")", due[what],
                    x.flawIn(flaw, stone, what));
        }
    }

    private static void would(GemCut x, String label, int[] pqrd, int... due) {
        for (int what = 0; what < due.length; what++) {
            Check.same(label + ": would(0, .., " + what + ")", due[what],
                    x.would(0, pqrd[0], pqrd[1], pqrd[2], pqrd[3], what));
        }
    }

    private static void rid(GemCut x, String label, int flaw, int stone, int... due) {
        for (int what = 0; what < due.length; what++) {
            Check.same(label + ": rid(" + flaw + ", " + stone + ", " + what + ")", due[what],
                    x.rid(flaw, stone, what));
        }
    }

    // ---- promise 1

    private static void aNewObject() {
        GemCut x = new GemCut();
        // 216 * 216 / 10 = 4665, and 2160
        counts(x, "a new object", 216, 216, 1, 1, 0, 400, 6825, 0);
        stone(x, "a new object", 0, 216, 0, 0, 0, 0, 0, 0, 6825, 152);
        Check.same("its last cell", 0, x.cell(5, 5, 5));
        Check.bounds(x, "cell(6, 0, 0)", () -> x.cell(6, 0, 0));
        Check.bounds(x, "cell(0, 6, 0)", () -> x.cell(0, 6, 0));
        Check.bounds(x, "cell(0, 0, 6)", () -> x.cell(0, 0, 6));
        Check.bounds(x, "stone(1, 0)", () -> x.stone(1, 0));
        Check.bounds(x, "flawIn(0, 0, 0)", () -> x.flawIn(0, 0, 0));
        Check.bounds(x, "plane(0, 0, 0)", () -> x.plane(0, 0, 0));
        GemCut y = new GemCut();
        y.cut(0, 1, 0, 0, 4);
        counts(x, "another object was cut", 216, 216, 1, 1, 0, 400, 6825, 0);
    }

    // ---- promise 2

    private static void taking() {
        GemCut x = new GemCut();
        Check.same("take(1, 1, 1)", 1, x.take(1, 1, 1));
        Check.same("take(10, 10, 10)", 1000, x.take(10, 10, 10));
        Check.same("its last cell", 0, x.cell(9, 9, 9));
        Check.same("take(2, 3, 4)", 24, x.take(2, 3, 4));
        Check.same("its last cell", 0, x.cell(1, 2, 3));
        Check.bounds(x, "cell(2, 0, 0)", () -> x.cell(2, 0, 0));
        Check.bounds(x, "cell(0, 3, 0)", () -> x.cell(0, 3, 0));
        Check.bounds(x, "cell(0, 0, 4)", () -> x.cell(0, 0, 4));
        x.flaw(0, 0, 0, 1, 1);
        x.cut(0, 1, 1, 1, 5);
        int[] bad = {0, 11, -1, LEAST, MOST};
        for (int side : bad) {
            Check.argument(x, "take(" + side + ", 1, 1)", () -> x.take(side, 1, 1));
            Check.argument(x, "take(1, " + side + ", 1)", () -> x.take(1, side, 1));
            Check.argument(x, "take(1, 1, " + side + ")", () -> x.take(1, 1, side));
        }
        Check.argument(x, "take(0, 0, 0)", () -> x.take(0, 0, 0));
    }

    private static void takingForgetsAll() {
        GemCut x = rough(4, 4, 4);
        x.flaw(1, 1, 1, 1, 9);
        x.saw(0, 1, 0, 0, 1);
        x.cut(0, 0, 1, 0, 2);
        x.cut(1, 0, 1, 0, 2);
        x.polish(0, 0);
        x.polish(1, 0);
        Check.same("turns left", 400 - 3 * 16 - 2 * 13, x.count(5));
        Check.same("take(2, 2, 2)", 8, x.take(2, 2, 2));
        counts(x, "after take", 8, 8, 1, 1, 0, 400, 86, 0);
        stone(x, "after take", 0, 8, 0, 0, 0, 0, 0, 0, 86, 8);
        Check.bounds(x, "stone(1, 0)", () -> x.stone(1, 0));
        Check.bounds(x, "plane(0, 0, 0)", () -> x.plane(0, 0, 0));
        Check.bounds(x, "flawIn(0, 0, 0)", () -> x.flawIn(0, 0, 0));
        would(x, "no flaws are left", new int[] {1, 0, 0, 1}, 0, 86, 0, 0);
        Check.same("the next flaw", 0, x.flaw(1, 1, 1, 0, 1));
        flawIn(x, "it has its own cells alone", 0, 0, 1, 1, 1);
        Check.same("the next stone", 1, x.saw(0, 1, 0, 0, 0));
        Check.same("it keeps no plane", 0, x.stone(1, 1));
        x.cut(0, 0, 1, 0, 1);
        plane(x, "the next plane is not polished", 0, 0, 0, 1, 0, 1, 2, 0);
        Check.same("take(6, 6, 6)", 216, x.take(6, 6, 6));
        counts(x, "the first rough again", 216, 216, 1, 1, 0, 400, 6825, 0);
        GemCut fresh = new GemCut();
        Check.same("its digest", fresh.digest(), x.digest());
    }

    // ---- promise 3

    private static void tellingFlaws() {
        GemCut x = rough(3, 4, 5);
        Check.bounds(x, "flaw(3, 0, 0, 0, 1)", () -> x.flaw(3, 0, 0, 0, 1));
        Check.bounds(x, "flaw(0, 4, 0, 0, 1)", () -> x.flaw(0, 4, 0, 0, 1));
        Check.bounds(x, "flaw(0, 0, 5, 0, 1)", () -> x.flaw(0, 0, 5, 0, 1));
        Check.bounds(x, "flaw(-1, 0, 0, 0, 1)", () -> x.flaw(-1, 0, 0, 0, 1));
        Check.bounds(x, "flaw(0, -1, 0, 0, 1)", () -> x.flaw(0, -1, 0, 0, 1));
        Check.bounds(x, "flaw(0, 0, -1, 0, 1)", () -> x.flaw(0, 0, -1, 0, 1));
        Check.bounds(x, "flaw(MOST, LEAST, 0, 0, 1)", () -> x.flaw(MOST, LEAST, 0, 0, 1));
        Check.argument(x, "flaw(0, 0, 0, -1, 1)", () -> x.flaw(0, 0, 0, -1, 1));
        Check.argument(x, "flaw(0, 0, 0, 4, 1)", () -> x.flaw(0, 0, 0, 4, 1));
        Check.argument(x, "flaw(0, 0, 0, 0, 0)", () -> x.flaw(0, 0, 0, 0, 0));
        Check.argument(x, "flaw(0, 0, 0, 0, 10)", () -> x.flaw(0, 0, 0, 0, 10));
        Check.argument(x, "flaw(0, 0, 0, MOST, LEAST)", () -> x.flaw(0, 0, 0, MOST, LEAST));
        Check.bounds(x, "no cell before no radius", () -> x.flaw(3, 0, 0, 4, 0));
        for (int n = 0; n < 10; n++) {
            Check.same("flaw " + n, n, x.flaw(2, 3, 4, n % 4, n == 9 ? 9 : n + 1));
        }
        Check.same("count(4)", 10, x.count(4));
        Check.state(x, "an eleventh flaw", () -> x.flaw(0, 0, 0, 0, 1));
        Check.argument(x, "no radius before the eleventh flaw", () -> x.flaw(0, 0, 0, 4, 1));
        Check.argument(x, "no severity before the eleventh flaw", () -> x.flaw(0, 0, 0, 0, 0));
        Check.bounds(x, "no cell before the eleventh flaw", () -> x.flaw(0, 0, 5, 0, 1));
        would(x, "with ten flaws", new int[] {0, 0, 1, 0}, 48, 134, 0, 0);
        Check.same("saw z > 0", 1, x.saw(0, 0, 0, 1, 0));
        Check.same("flaws in the lower part", 0, x.stone(0, 5) + x.stone(0, 6));
        Check.same("flaws in the upper part", 10, x.stone(1, 5) + x.stone(1, 6));
    }

    private static void cellsOfFlaws() {
        GemCut x = rough(10, 10, 10);
        int[] whole = {1, 7, 25, 63};
        for (int radius = 0; radius <= 3; radius++) {
            x.flaw(5, 5, 5, radius, 1);
            flawIn(x, "in the midst", radius, 0, whole[radius], 0, 0);
        }
        x.flaw(0, 0, 0, 1, 1);
        flawIn(x, "in the corner", 4, 0, 4, 4, 1);
        x.flaw(9, 9, 9, 3, 1);
        // 1, 3, 6 and 10 cells at the distances 0 to 3; the one at 1, 1, 1 alone is hidden
        flawIn(x, "in the last corner", 5, 0, 20, 19, 1);
        x.flaw(5, 5, 3, 3, 1);
        flawIn(x, "with its end at the surface", 6, 0, 63, 1, 1);
        x.flaw(2, 5, 5, 1, 1);
        flawIn(x, "with its end under the surface", 7, 0, 7, 0, 0);
        GemCut y = rough(5, 1, 1);
        y.flaw(1, 0, 0, 3, 1);
        flawIn(y, "in a rod", 0, 0, 5, 5, 1);
    }

    /** A cell of which one neighbour alone is another stone's is at the surface, whichever neighbour it is. */
    private static void surfaceOfEachSide() {
        int[][] orders = {{3, 2, 1}, {3, 1, 2}, {2, 3, 1}, {1, 3, 2}, {2, 1, 3}, {1, 2, 3}};
        for (int[] steep : orders) {
            for (int signs = 0; signs < 8; signs++) {
                int p = (signs & 1) == 0 ? steep[0] : -steep[0];
                int q = (signs & 2) == 0 ? steep[1] : -steep[1];
                int r = (signs & 4) == 0 ? steep[2] : -steep[2];
                int height = 2 * p + 3 * q + 4 * r;
                String label = "beside " + p + ", " + q + ", " + r;
                GemCut x = rough(6, 7, 8);
                x.flaw(2, 3, 4, 0, 1);
                x.saw(0, p, q, r, height + 3);
                flawIn(x, label + ", off the cell", 0, 0, 1, 0, 0);
                x.saw(0, p, q, r, height + 2);
                flawIn(x, label + ", next to the cell", 0, 0, 1, 1, 1);
            }
        }
    }

    // ---- promise 4

    private static void cells() {
        GemCut x = rough(3, 4, 5);
        Check.same("at first", 0, x.cell(2, 3, 4));
        x.saw(0, 0, 0, 1, 3);
        x.cut(0, 1, 0, 0, 1);
        x.cut(1, 0, 1, 0, 2);
        Check.same("stays", 0, x.cell(1, 3, 3));
        Check.same("cut off", -1, x.cell(2, 3, 3));
        Check.same("sawn off", 1, x.cell(2, 2, 4));
        Check.same("sawn and cut off", -1, x.cell(2, 3, 4));
        Check.bounds(x, "cell(3, 0, 0)", () -> x.cell(3, 0, 0));
        Check.bounds(x, "cell(0, 4, 0)", () -> x.cell(0, 4, 0));
        Check.bounds(x, "cell(0, 0, 5)", () -> x.cell(0, 0, 5));
        Check.bounds(x, "cell(-1, 0, 0)", () -> x.cell(-1, 0, 0));
        Check.bounds(x, "cell(0, -1, 0)", () -> x.cell(0, -1, 0));
        Check.bounds(x, "cell(0, 0, -1)", () -> x.cell(0, 0, -1));
        Check.bounds(x, "cell(LEAST, MOST, MOST)", () -> x.cell(LEAST, MOST, MOST));
    }

    // ---- promise 5

    private static void flawsInStones() {
        GemCut x = rough(5, 5, 5);
        x.flaw(2, 2, 2, 1, 4);
        flawIn(x, "hidden", 0, 0, 7, 0, 0);
        Check.same("cut z > 3", 25, x.cut(0, 0, 0, 1, 3));
        flawIn(x, "its top comes to light", 0, 0, 7, 1, 1);
        x.saw(0, 1, 0, 0, 2);
        flawIn(x, "what was left of the saw", 0, 0, 6, 5, 1);
        flawIn(x, "what was right of the saw", 0, 1, 1, 1, 1);
        x.cut(1, 1, 0, 0, 2);
        flawIn(x, "not in an empty stone", 0, 1, 0, 0, -1);
        x.cut(0, 0, 1, 0, 0);
        flawIn(x, "cut off", 0, 0, 0, 0, -1);
        Check.same("a flaw where nothing is", 1, x.flaw(4, 4, 4, 1, 9));
        flawIn(x, "where nothing is", 1, 0, 0, 0, -1);
        Check.bounds(x, "flawIn(2, 0, 0)", () -> x.flawIn(2, 0, 0));
        Check.bounds(x, "flawIn(-1, 0, 0)", () -> x.flawIn(-1, 0, 0));
        Check.bounds(x, "flawIn(0, 2, 0)", () -> x.flawIn(0, 2, 0));
        Check.bounds(x, "flawIn(0, -1, 0)", () -> x.flawIn(0, -1, 0));
        Check.bounds(x, "flawIn(0, 0, 3)", () -> x.flawIn(0, 0, 3));
        Check.bounds(x, "flawIn(0, 0, -1)", () -> x.flawIn(0, 0, -1));
        Check.bounds(x, "flawIn(MOST, LEAST, MOST)", () -> x.flawIn(MOST, LEAST, MOST));
    }

    // ---- promise 6

    private static void wantsPlane(GemCut x, String call, int stones, boolean saw) {
        int[] strange = {stones, -1, LEAST, MOST};
        for (int s : strange) {
            Check.bounds(x, call + " of stone " + s, () -> change(x, saw, s, 1, 0, 0, 0));
            Check.bounds(x, call + " of stone " + s + " by no plane", () -> change(x, saw, s, 0, 0, 0, 101));
        }
        int[] steep = {4, -4, LEAST, MOST};
        for (int a : steep) {
            Check.argument(x, call + " by p " + a, () -> change(x, saw, 0, a, 0, 0, 0));
            Check.argument(x, call + " by q " + a, () -> change(x, saw, 0, 0, a, 0, 0));
            Check.argument(x, call + " by r " + a, () -> change(x, saw, 0, 0, 0, a, 0));
        }
        int[] deep = {101, -101, LEAST, MOST};
        for (int d : deep) {
            Check.argument(x, call + " by d " + d, () -> change(x, saw, 0, 1, 0, 0, d));
        }
        Check.argument(x, call + " by no plane", () -> change(x, saw, 0, 0, 0, 0, 0));
    }

    private static int change(GemCut x, boolean saw, int stone, int p, int q, int r, int d) {
        return saw ? x.saw(stone, p, q, r, d) : x.cut(stone, p, q, r, d);
    }

    private static void sawing() {
        GemCut x = rough(4, 3, 2);
        x.cut(0, 1, 0, 0, 2);
        x.polish(0, 0);
        int turns = x.count(5);
        Check.same("saw y > 0", 1, x.saw(0, 0, 1, 0, 0));
        Check.same("no turns", turns, x.count(5));
        Check.same("lower", 0, x.cell(1, 0, 0));
        Check.same("upper", 1, x.cell(1, 1, 0));
        Check.same("what was gone", -1, x.cell(3, 1, 0));
        Check.same("the stone keeps its plane", 1, x.stone(0, 1));
        Check.same("the new one has none", 0, x.stone(1, 1));
        plane(x, "fewer cells touch it", 0, 0, 1, 0, 0, 2, 2, 1);
        Check.same("saw of the new stone", 2, x.saw(1, -2, 1, 3, 0));
        // at y 1: -2 x + 1 + 3 z > 0 for 1 and 2 cells, at y 2: -2 x + 2 + 3 z > 0 for 1 and 3
        Check.same("its cells", 7, x.stone(2, 0));
        Check.same("what stays", 5, x.stone(1, 0));
        Check.same("a cell of it", 2, x.cell(0, 2, 0));
        Check.same("a cell that stays", 1, x.cell(1, 2, 0));
        Check.same("nothing is lost", 18, x.count(1));
        wantsPlane(x, "saw", 3, true);
        Check.state(x, "no cell would be of the new one", () -> x.saw(0, 1, 0, 0, 2));
        Check.state(x, "all would", () -> x.saw(0, 1, 0, 0, -1));
        Check.state(x, "none at the greatest depth", () -> x.saw(0, 3, 3, 3, 100));
        Check.state(x, "all at the least depth", () -> x.saw(0, -3, -3, -3, -100));
        x.cut(2, 0, 1, 0, 0);
        Check.same("an empty stone", 0, x.stone(2, 0));
        Check.state(x, "saw of an empty stone", () -> x.saw(2, 1, 0, 0, 0));
    }

    private static void sawingUpToEight() {
        GemCut x = rough(10, 1, 1);
        for (int made = 1; made < 8; made++) {
            Check.same("stone " + made, made, x.saw(0, 1, 0, 0, 9 - made));
        }
        Check.same("eight stones", 8, x.count(2));
        Check.same("the last one", 7, x.cell(3, 0, 0));
        Check.same("the first one", 0, x.cell(2, 0, 0));
        Check.state(x, "a ninth stone", () -> x.saw(0, 1, 0, 0, 1));
        Check.argument(x, "no plane before the ninth stone", () -> x.saw(0, 0, 0, 0, 1));
        Check.argument(x, "no depth before the ninth stone", () -> x.saw(0, 1, 0, 0, 101));
        Check.bounds(x, "no stone before the ninth stone", () -> x.saw(8, 1, 0, 0, 1));
        Check.same("cut of the eighth", 1, x.cut(7, 1, 0, 0, -100));
        Check.state(x, "an empty stone still counts", () -> x.saw(0, 1, 0, 0, 1));
    }

    // ---- promise 7

    private static void cutting() {
        GemCut x = rough(3, 3, 3);
        Check.same("cut x + y + z > 4", 4, x.cut(0, 1, 1, 1, 4));
        Check.same("at the height of the plane", 0, x.cell(2, 2, 0));
        Check.same("above it", -1, x.cell(2, 2, 1));
        Check.same("turns", 388, x.count(5));
        plane(x, "the plane is kept", 0, 0, 1, 1, 1, 4, 6, 0);
        Check.same("nothing to cut", 0, x.cut(0, 1, 1, 1, 4));
        Check.same("the plane is kept once more", 2, x.stone(0, 1));
        Check.same("no turns", 388, x.count(5));
        x.saw(0, 0, 0, 1, 1);
        Check.same("cut of another stone", 3, x.cut(1, -1, 0, 0, -1));
        Check.same("the first is untouched", 17, x.stone(0, 0));
        Check.same("its planes", 2, x.stone(0, 1));
        Check.same("cut of all that is left", 3, x.cut(1, 0, 0, 1, -100));
        Check.same("it is empty", 0, x.stone(1, 0));
        Check.same("cut of an empty stone", 0, x.cut(1, 3, 3, 3, 100));
        Check.same("it keeps the plane", 3, x.stone(1, 1));
        wantsPlane(x, "cut", 2, false);
        GemCut y = rough(10, 10, 10);
        Check.same("the steepest plane", 1, y.cut(0, 3, 3, 3, 80));
        Check.same("the other way", 1, y.cut(0, -3, -3, -3, -1));
        Check.same("by each of p, q, r", 1, y.cut(0, 3, -2, 1, 35));
        Check.same("its cell", -1, y.cell(9, 0, 9));
    }

    private static void cuttingUpToSixteen() {
        GemCut x = rough(2, 2, 2);
        for (int k = 0; k < 16; k++) {
            Check.same("cut " + k, 0, x.cut(0, 1, 0, 0, 1 + k));
        }
        Check.same("sixteen planes", 16, x.stone(0, 1));
        Check.state(x, "a seventeenth plane", () -> x.cut(0, 1, 0, 0, 0));
        Check.state(x, "a seventeenth plane that takes nothing", () -> x.cut(0, 1, 0, 0, 9));
        Check.argument(x, "no plane before the seventeenth", () -> x.cut(0, 0, 0, 0, 0));
        Check.argument(x, "no depth before the seventeenth", () -> x.cut(0, 1, 0, 0, -101));
        Check.bounds(x, "no stone before the seventeenth", () -> x.cut(1, 1, 0, 0, 0));
        Check.same("but it can be sawn", 1, x.saw(0, 1, 0, 0, 0));
        Check.same("and the new one be cut", 2, x.cut(1, 0, 1, 0, 0));
    }

    private static void wheelOfCuts() {
        GemCut x = new GemCut();
        Check.state(x, "432 turns", () -> x.cut(0, 0, 0, 1, 1));
        Check.argument(x, "no plane before no turns", () -> x.cut(0, 4, 0, 1, 1));
        Check.bounds(x, "no stone before no turns", () -> x.cut(1, 0, 0, 1, 1));
        Check.same("324 turns", 108, x.cut(0, 0, 0, 1, 2));
        Check.same("left", 76, x.count(5));
        Check.state(x, "108 turns", () -> x.cut(0, 0, 0, 1, 1));
        Check.same("54 turns", 18, x.cut(0, 0, 1, 0, 4));
        Check.same("left", 22, x.count(5));
        x.dress();
        Check.same("270 turns", 90, x.cut(0, 0, 0, 1, -1));
        GemCut y = rough(10, 10, 4);
        y.cut(0, 0, 0, 1, 2);
        Check.same("left of 400", 100, y.count(5));
        y.saw(0, 0, 1, 0, 5);
        Check.same("90 turns of 100", 30, y.cut(1, 0, 1, 0, 8));
        Check.same("left of 100", 10, y.count(5));
        Check.state(y, "18 turns of 10", () -> y.cut(1, 3, 0, 1, 27));
        Check.same("9 turns of 10", 3, y.cut(1, 2, 1, 1, 26));
        Check.state(y, "3 turns of 1", () -> y.cut(0, -1, -1, -1, -1));
        Check.same("none of 1", 0, y.cut(0, -1, -1, -1, 0));
    }

    // ---- promise 8

    private static void polishing() {
        GemCut x = rough(3, 3, 3);
        x.cut(0, 1, 0, 0, 1);
        Check.same("it is not polished at first", 0, x.plane(0, 0, 5));
        Check.bounds(x, "polish(1, 0)", () -> x.polish(1, 0));
        Check.bounds(x, "polish(-1, 0)", () -> x.polish(-1, 0));
        Check.bounds(x, "polish(0, 1)", () -> x.polish(0, 1));
        Check.bounds(x, "polish(0, -1)", () -> x.polish(0, -1));
        Check.bounds(x, "polish(MOST, LEAST)", () -> x.polish(MOST, LEAST));
        Check.same("nine cells and 5", 14, x.polish(0, 0));
        Check.same("it is polished", 1, x.plane(0, 0, 5));
        Check.same("turns", 400 - 27 - 14, x.count(5));
        Check.same("turns in all", 27 + 14, x.count(7));
        Check.state(x, "polished already", () -> x.polish(0, 0));
        x.cut(0, 0, 0, 1, 5);
        Check.state(x, "no facet, for nothing reaches it", () -> x.polish(0, 1));
        Check.same("it is not polished", 0, x.plane(0, 1, 5));
        x.cut(0, 1, 0, 0, 0);
        Check.same("no facet now", 0, x.plane(0, 0, 4));
        Check.same("but it stays polished", 1, x.plane(0, 0, 5));
        Check.state(x, "no facet now", () -> x.polish(0, 0));
        x.saw(0, 0, 0, 1, 0);
        Check.same("what the saw left of it", 8, x.polish(0, 2));
        x.cut(0, 1, 0, 0, -1);
        Check.state(x, "nothing is left of it", () -> x.polish(0, 2));

        GemCut y = rough(10, 10, 10);
        y.cut(0, 0, 0, 1, 8);
        Check.state(y, "105 turns of 100", () -> y.polish(0, 0));
        Check.bounds(y, "no plane before no turns", () -> y.polish(0, 1));
        y.dress();
        Check.same("105 turns of 400", 105, y.polish(0, 0));
    }

    private static void wheelToTheLastTurn() {
        GemCut x = rough(10, 10, 10);
        Check.same("the top", 100, x.cut(0, 0, 0, 1, 8));
        Check.same("an edge", 9, x.cut(0, 1, 1, 0, 17));
        Check.same("its facet", 23, x.polish(0, 1));
        Check.same("the other edge", 9, x.cut(0, -1, -1, 0, -1));
        Check.same("left", 23, x.count(5));
        Check.same("with the last turns", 23, x.polish(0, 2));
        Check.same("none left", 0, x.count(5));
        Check.state(x, "a cut", () -> x.cut(0, 1, -1, 1, 16));
        Check.state(x, "a polish", () -> x.polish(0, 0));
        Check.same("a cut of nothing", 0, x.cut(0, 1, 0, 0, 9));
        Check.same("all spent", 400, x.count(7));

        GemCut y = rough(10, 10, 10);
        Check.same("the first corner", 1, y.cut(0, 1, 1, 1, 26));
        Check.same("its facet", 8, y.polish(0, 0));
        Check.same("the second corner", 1, y.cut(0, -1, -1, -1, -1));
        Check.same("its facet", 8, y.polish(0, 1));
        Check.same("the top", 99, y.cut(0, 0, 0, 1, 8));
        Check.same("the first edge", 9, y.cut(0, 1, 1, 0, 17));
        Check.same("the second edge", 8, y.cut(0, -1, -1, 0, -1));
        Check.same("left", 30, y.count(5));
        Check.same("the third edge", 9, y.cut(0, 1, -1, 0, 8));
        Check.same("left", 3, y.count(5));
        Check.state(y, "two cells", () -> y.cut(0, -3, 3, 1, 33));
        Check.same("with the last turns", 1, y.cut(0, -1, 1, 1, 16));
        Check.same("none left", 0, y.count(5));
    }

    // ---- promise 9

    private static void dressing() {
        GemCut x = new GemCut();
        Check.same("a full wheel", 400, x.dress());
        x.cut(0, 1, 1, 1, 13);
        Check.same("after four cells", 388, x.dress());
        Check.same("full again", 400, x.count(5));
        Check.same("what was spent stays", 12, x.count(7));
        Check.same("never more than full", 400, x.dress());
        Check.same("the stone stays", 212, x.stone(0, 0));
    }

    // ---- promise 10

    private static void stones() {
        GemCut x = rough(3, 3, 3);
        x.flaw(1, 1, 1, 0, 5);
        x.flaw(0, 0, 0, 0, 2);
        x.flaw(0, 2, 2, 0, 1);
        // 72 + 270 = 342, of which 100 - 10 - 12 - 6 parts
        stone(x, "whole", 0, 27, 0, 0, 0, 0, 2, 1, 246, 26);
        x.cut(0, 1, 0, 0, 1);
        // 32 + 180 = 212, of which 100 - 30 - 12 - 6 parts
        stone(x, "cut", 0, 18, 1, 1, 0, 0, 3, 0, 110, 18);
        x.cut(0, -1, 0, 0, -1);
        x.polish(0, 1);
        // 8 + 90 = 98, of which 100 - 30 parts, and 25, and 40
        stone(x, "cut on both sides", 0, 9, 2, 2, 1, 1, 1, 0, 133, 9);
        x.saw(0, 0, 0, 1, 0);
        stone(x, "sawn", 0, 3, 2, 2, 1, 1, 0, 0, 95, 3);
        stone(x, "sawn off", 1, 6, 0, 0, 0, 0, 1, 0, 44, 6);
        x.cut(0, 0, 0, 1, -1);
        stone(x, "gone", 0, 0, 3, 0, 0, 0, 0, 0, 0, 0);
        Check.bounds(x, "stone(2, 0)", () -> x.stone(2, 0));
        Check.bounds(x, "stone(-1, 0)", () -> x.stone(-1, 0));
        Check.bounds(x, "stone(0, 9)", () -> x.stone(0, 9));
        Check.bounds(x, "stone(0, -1)", () -> x.stone(0, -1));
        Check.bounds(x, "stone(LEAST, MOST)", () -> x.stone(LEAST, MOST));
        GemCut y = rough(4, 4, 4);
        Check.same("surface of a cube of 4", 56, y.stone(0, 8));
        y.saw(0, 1, 0, 0, 2);
        Check.same("a saw cut is surface", 44, y.stone(0, 8));
        Check.same("of the new one too", 16, y.stone(1, 8));
        Check.same("a rod is all surface", 10, rough(1, 10, 1).stone(0, 8));
    }

    private static void worth() {
        int[][] due = {{1, 1, 1, 10}, {1, 1, 3, 30}, {2, 2, 1, 41}, {5, 1, 1, 52}, {3, 3, 3, 342},
            {10, 10, 10, 110000}};
        for (int[] d : due) {
            Check.same("worth of " + d[0] + " * " + d[1] + " * " + d[2], d[3], rough(d[0], d[1], d[2]).stone(0, 7));
        }
        GemCut x = rough(5, 1, 1);
        int[] worths = {23, 5, 5};
        for (int f = 0; f < 3; f++) {
            x.flaw(f, 0, 0, 0, 9);
            // 52 * 46 / 100, then with at least 10 parts
            Check.same("with open flaws " + (f + 1), worths[f], x.stone(0, 7));
        }
        GemCut y = rough(5, 5, 5);
        // 1562 + 1250 = 2812, of which 18 parts less each time
        int[] hidden = {2305, 1799, 1293, 787, 281, 281};
        for (int f = 0; f < 6; f++) {
            y.flaw(2, 2, 2, 0, 9);
            Check.same("with hidden flaws " + (f + 1), hidden[f], y.stone(0, 7));
        }
    }

    private static void opposites() {
        GemCut x = rough(4, 4, 4);
        x.cut(0, 1, 2, -1, 9);
        Check.same("one alone", 0, x.stone(0, 4));
        x.cut(0, -1, -2, 1, 3);
        Check.same("two", 1, x.stone(0, 4));
        x.cut(0, -1, -2, 1, 3);
        Check.same("each pair", 2, x.stone(0, 4));
        x.cut(0, 1, 2, -1, 9);
        Check.same("each of both ways", 4, x.stone(0, 4));
        x.cut(0, -2, -3, 1, 100);
        x.cut(0, 2, 3, -1, 100);
        Check.same("no facets, no pairs", 4, x.stone(0, 4));
        GemCut y = rough(4, 4, 4);
        y.cut(0, 1, 0, 0, 3);
        y.cut(0, -2, 0, 0, 0);
        y.cut(0, 0, -1, 0, 0);
        y.cut(0, -1, 1, 0, 3);
        y.cut(0, -1, 0, 1, 3);
        Check.same("all are facets", 5, y.stone(0, 2));
        Check.same("none are opposite", 0, y.stone(0, 4));
        y.cut(0, -1, 0, 0, 0);
        Check.same("one is", 1, y.stone(0, 4));
        // 409 + 640, and 40
        Check.same("worth", 1089, y.stone(0, 7));
        y.cut(0, 1, 0, 0, 2);
        Check.same("the new facet for the old one", 1, y.stone(0, 4));
    }

    // ---- promise 11

    private static void planes() {
        GemCut x = rough(4, 4, 4);
        x.cut(0, 2, -1, 3, 13);
        x.cut(0, -3, 1, 2, 7);
        // 2 x - y + 3 z of 15, 14 are cut off; 2, 3 and 3 cells of 13, 12 and 11 touch
        plane(x, "the first plane", 0, 0, 2, -1, 3, 13, 8, 0);
        // -3 x + y + 2 z of 9, 8 are cut off; 2, 3 and 3 cells of 7, 6 and 5 touch
        plane(x, "the second plane", 0, 1, -3, 1, 2, 7, 8, 0);
        x.polish(0, 1);
        plane(x, "polished", 0, 1, -3, 1, 2, 7, 8, 1);
        Check.same("the first is not", 0, x.plane(0, 0, 5));
        x.saw(0, 0, 0, 1, 1);
        Check.same("other stones do not touch", 0, x.plane(0, 0, 4));
        Check.bounds(x, "plane(2, 0, 0)", () -> x.plane(2, 0, 0));
        Check.bounds(x, "plane(-1, 0, 0)", () -> x.plane(-1, 0, 0));
        Check.bounds(x, "plane(0, 2, 0)", () -> x.plane(0, 2, 0));
        Check.bounds(x, "plane(0, -1, 0)", () -> x.plane(0, -1, 0));
        Check.bounds(x, "plane(1, 0, 0)", () -> x.plane(1, 0, 0));
        Check.bounds(x, "plane(0, 0, 6)", () -> x.plane(0, 0, 6));
        Check.bounds(x, "plane(0, 0, -1)", () -> x.plane(0, 0, -1));
        Check.bounds(x, "plane(MOST, LEAST, MOST)", () -> x.plane(MOST, LEAST, MOST));
        GemCut y = rough(5, 1, 1);
        y.cut(0, 1, 0, 0, 4);
        y.cut(0, 1, 0, 0, 5);
        y.cut(0, -3, 0, 0, 2);
        y.cut(0, 0, 3, 0, 2);
        y.cut(0, 0, 3, 0, 3);
        int[] touching = {1, 0, 1, 5, 0};
        for (int k = 0; k < 5; k++) {
            Check.same("touching plane " + k, touching[k], y.plane(0, k, 4));
        }
        Check.same("three are facets", 3, y.stone(0, 2));
    }

    // ---- promise 12

    private static void angles() {
        GemCut x = rough(2, 2, 2);
        int[][] kept = {{1, 1, 1}, {1, 0, 0}, {-1, -1, -1}, {3, -2, 1}, {0, 1, -1}, {-3, 2, 2}, {2, 0, 0}};
        for (int[] k : kept) {
            x.cut(0, k[0], k[1], k[2], 100);
        }
        int[][] due = {
            {100, 33, -100, 9, 0, 1, 33},
            {33, 100, -33, 64, 0, -52, 100},
            {-100, -33, 100, -9, 0, -1, -33},
            {9, 64, -9, 100, -32, -50, 64},
            {0, 0, 0, -32, 100, 0, 0},
            {1, -52, -1, -50, 0, 100, -52},
            {33, 100, -33, 64, 0, -52, 100},
        };
        for (int a = 0; a < 7; a++) {
            for (int b = 0; b < 7; b++) {
                Check.same("angle(0, " + a + ", " + b + ")", due[a][b], x.angle(0, a, b));
            }
        }
        x.saw(0, 1, 0, 0, 0);
        x.cut(1, 0, 0, 1, 1);
        Check.same("of the other stone", 100, x.angle(1, 0, 0));
        Check.bounds(x, "angle(1, 0, 1)", () -> x.angle(1, 0, 1));
        Check.bounds(x, "angle(1, 1, 0)", () -> x.angle(1, 1, 0));
        Check.bounds(x, "angle(2, 0, 0)", () -> x.angle(2, 0, 0));
        Check.bounds(x, "angle(-1, 0, 0)", () -> x.angle(-1, 0, 0));
        Check.bounds(x, "angle(0, 7, 0)", () -> x.angle(0, 7, 0));
        Check.bounds(x, "angle(0, 0, 7)", () -> x.angle(0, 0, 7));
        Check.bounds(x, "angle(0, -1, 0)", () -> x.angle(0, -1, 0));
        Check.bounds(x, "angle(0, 0, -1)", () -> x.angle(0, 0, -1));
        Check.bounds(x, "angle(MOST, MOST, LEAST)", () -> x.angle(MOST, MOST, LEAST));
    }

    // ---- promise 13

    private static void counts() {
        GemCut x = rough(4, 3, 2);
        x.flaw(0, 0, 0, 1, 1);
        x.flaw(3, 2, 1, 0, 1);
        x.cut(0, 1, 0, 0, 2);
        x.saw(0, 0, 1, 0, 0);
        x.polish(0, 0);
        // stone 0: 3 + 60 = 63 of which 94 parts, and 25; stone 1: 14 + 120 of which 94 parts
        counts(x, "two stones", 24, 18, 2, 2, 2, 400 - 18 - 7, 59 + 25 + 125, 25);
        x.dress();
        x.cut(0, 1, 0, 0, -1);
        counts(x, "one is empty", 24, 12, 2, 1, 2, 382, 125, 43);
        Check.bounds(x, "count(8)", () -> x.count(8));
        Check.bounds(x, "count(-1)", () -> x.count(-1));
        Check.bounds(x, "count(MOST)", () -> x.count(MOST));
        Check.bounds(x, "count(LEAST)", () -> x.count(LEAST));
    }

    // ---- promise 14

    private static void wouldBe() {
        GemCut x = rough(3, 3, 3);
        x.flaw(1, 1, 1, 0, 5);
        x.flaw(2, 0, 0, 0, 2);
        long before = x.digest();
        would(x, "x > 1", new int[] {1, 0, 0, 1}, 9, 148, 1, 0);
        would(x, "nothing", new int[] {1, 0, 0, 100}, 0, 266, 1, 0);
        would(x, "all", new int[] {1, 0, 0, -100}, 27, 0, 0, 0);
        // 67 + 260 = 327, of which 100 - 10 - 12 parts
        would(x, "the other corner", new int[] {-1, 1, 1, 3}, 1, 255, 1, 0);
        Check.same("nothing is changed", before, x.digest());
        Check.bounds(x, "would of stone 1", () -> x.would(1, 1, 0, 0, 0, 0));
        Check.bounds(x, "would of stone -1", () -> x.would(-1, 1, 0, 0, 0, 0));
        Check.bounds(x, "would 4", () -> x.would(0, 1, 0, 0, 0, 4));
        Check.bounds(x, "would -1", () -> x.would(0, 1, 0, 0, 0, -1));
        Check.argument(x, "would by no plane", () -> x.would(0, 0, 0, 0, 0, 0));
        int[] steep = {4, -4, LEAST, MOST};
        for (int a : steep) {
            Check.argument(x, "would by p " + a, () -> x.would(0, a, 0, 0, 0, 0));
            Check.argument(x, "would by q " + a, () -> x.would(0, 0, a, 0, 0, 1));
            Check.argument(x, "would by r " + a, () -> x.would(0, 0, 0, a, 0, 2));
        }
        Check.argument(x, "would by d 101", () -> x.would(0, 1, 0, 0, 101, 3));
        Check.argument(x, "would by d -101", () -> x.would(0, 1, 0, 0, -101, 3));
        Check.bounds(x, "no what before no plane", () -> x.would(0, 0, 0, 0, 0, 4));
        Check.bounds(x, "no stone before no depth", () -> x.would(1, 1, 0, 0, 101, 0));
        x.saw(0, 0, 0, 1, 0);
        x.cut(0, 1, 0, 0, -1);
        would(x, "an empty stone", new int[] {1, 1, 1, 0}, 0, 0, 0, 0);
    }

    private static void wouldBeFacets() {
        GemCut x = rough(3, 3, 3);
        x.cut(0, 1, 0, 0, 1);
        x.polish(0, 0);
        // 8 + 90, and 25, and 40 for the new facet with the old one
        would(x, "the new plane is opposite", new int[] {-1, 0, 0, -1}, 9, 163, 0, 1);
        // 8 + 90: the polished facet is no facet then
        would(x, "a facet is cut off", new int[] {1, 0, 0, 0}, 9, 98, 0, 0);
        // 32 + 180, and 25
        would(x, "the new plane is no facet", new int[] {-1, 0, 0, 1}, 0, 237, 0, 0);
        would(x, "the new plane is just one", new int[] {-1, 0, 0, 0}, 0, 277, 0, 1);
        x.cut(0, -1, 0, 0, 0);
        would(x, "two pairs", new int[] {1, 0, 0, 1}, 0, 317, 0, 2);
        // 3 + 60, and 25, and 40
        would(x, "the pair in the lowest row", new int[] {0, 1, 0, 0}, 12, 128, 0, 1);
        would(x, "one pair is lost", new int[] {-1, 0, 0, -1}, 9, 163, 0, 1);
        Check.same("what is polished stays", 1, x.stone(0, 3));
        GemCut y = rough(4, 1, 1);
        y.flaw(1, 0, 0, 0, 3);
        y.cut(0, 3, 0, 0, 9);
        // between 6 and 9 the plane lies off the stone, and -3, 0, 0 is a facet still
        would(y, "a steep plane", new int[] {-3, 0, 0, 2}, 0, 73, 1, 1);
        would(y, "a steep plane further off", new int[] {-3, 0, 0, 3}, 0, 33, 1, 0);
    }

    private static void wouldBeOpen() {
        GemCut x = rough(5, 5, 5);
        x.flaw(2, 2, 2, 0, 1);
        int[][] open = {{1, 0, 0}, {0, -1, 0}, {0, 0, 1}, {-1, 1, 0}, {1, 1, -1}, {0, 2, -1}, {-3, 2, 3}};
        for (int[] slope : open) {
            int height = 2 * (slope[0] + slope[1] + slope[2]);
            int reach = Math.max(Math.abs(slope[0]), Math.max(Math.abs(slope[1]), Math.abs(slope[2])));
            for (int off = -1; off <= 4; off++) {
                Check.same("at the height " + off + " over the flaw", off >= 0 && off < reach ? 1 : 0,
                        x.would(0, slope[0], slope[1], slope[2], height + off, 2));
            }
        }
    }

    private static void wouldBeFarOff() {
        GemCut x = rough(10, 10, 10);
        int[] depths = {-100, -82, -81, -80, -79, -78, -4, -3, -1, 0, 100};
        int[] taken = {1000, 1000, 999, 999, 999, 996, 4, 1, 1, 0, 0};
        for (int k = 0; k < depths.length; k++) {
            Check.same("would(0, -3, -3, -3, " + depths[k] + ", 0)", taken[k],
                    x.would(0, -3, -3, -3, depths[k], 0));
        }
        depths = new int[] {-100, -1, 0, 1, 2, 3, 77, 78, 80, 81, 100};
        taken = new int[] {1000, 1000, 999, 999, 999, 996, 4, 1, 1, 0, 0};
        for (int k = 0; k < depths.length; k++) {
            Check.same("would(0, 3, 3, 3, " + depths[k] + ", 0)", taken[k], x.would(0, 3, 3, 3, depths[k], 0));
        }
    }

    private static void wouldBeBeyondTheLimits() {
        GemCut x = rough(10, 10, 10);
        x.cut(0, 0, 0, 1, 8);
        x.cut(0, 0, 1, 0, 9);
        for (int k = 2; k < 16; k++) {
            x.cut(0, 0, 1, 0, 9 + k);
        }
        Check.state(x, "900 cells, a seventeenth plane", () -> x.cut(0, 1, 0, 0, -1));
        would(x, "all of them", new int[] {1, 0, 0, -1}, 900, 0, 0, 0);
        would(x, "half of them", new int[] {1, 0, 0, 4}, 450, 20250 + 4500, 0, 0);
        would(x, "the seventeenth with the second", new int[] {0, -1, 0, -1}, 90, 65610 + 8100 + 40, 0, 1);
        Check.same("it keeps 16", 16, x.stone(0, 1));
        Check.same("turns", 100, x.count(5));
    }

    // ---- promise 15

    private static void depths() {
        GemCut x = rough(5, 1, 1);
        long before = x.digest();
        Check.same("a rod whole", 4, x.depth(0, 1, 0, 0));
        Check.same("the other way", 0, x.depth(0, -1, 0, 0));
        Check.same("across", 0, x.depth(0, 0, 2, 0));
        Check.same("whole with steps", 12, x.depth(0, 3, 0, 0));
        Check.same("nothing is changed", before, x.digest());
        x.flaw(4, 0, 0, 0, 9);
        Check.same("off with the flaw", 3, x.depth(0, 1, 0, 0));
        Check.same("the greatest of several", 11, x.depth(0, 3, 0, 0));
        Check.same("nothing to be gained", 0, x.depth(0, 0, 0, -1));
        GemCut y = rough(2, 1, 1);
        y.flaw(1, 0, 0, 0, 9);
        y.flaw(1, 0, 0, 0, 9);
        Check.same("the height of the lowest cell", 0, y.depth(0, 1, 0, 0));
        Check.same("with steps", 1, y.depth(0, 2, 0, 0));
        y.flaw(0, 0, 0, 0, 9);
        y.flaw(0, 0, 0, 0, 9);
        Check.same("no way out", 1, y.depth(0, 1, 0, 0));
        wantsSlope(y);
        y.cut(0, 1, 0, 0, -1);
        Check.state(y, "depth of an empty stone", () -> y.depth(0, 1, 0, 0));
        Check.argument(y, "no plane before an empty stone", () -> y.depth(0, 0, 0, 0));
        Check.bounds(y, "no stone before an empty stone", () -> y.depth(1, 1, 0, 0));
        GemCut z = rough(10, 10, 10);
        Check.same("the highest of all", 81, z.depth(0, 3, 3, 3));
        Check.same("the lowest of all", 0, z.depth(0, -3, -3, -3));
        z.saw(0, 1, 1, 1, 26);
        Check.same("far below 0", -81, z.depth(1, -3, -3, -3));
    }

    private static void wantsSlope(GemCut x) {
        int[] steep = {4, -4, LEAST, MOST};
        for (int a : steep) {
            Check.argument(x, "depth by p " + a, () -> x.depth(0, a, 0, 0));
            Check.argument(x, "depth by q " + a, () -> x.depth(0, 0, a, 0));
            Check.argument(x, "depth by r " + a, () -> x.depth(0, 0, 0, a));
        }
        Check.argument(x, "depth by no plane", () -> x.depth(0, 0, 0, 0));
        Check.bounds(x, "depth of stone 1", () -> x.depth(1, 1, 0, 0));
        Check.bounds(x, "depth of stone -1", () -> x.depth(-1, 1, 0, 0));
        Check.bounds(x, "no stone before no plane", () -> x.depth(MOST, 0, 0, 0));
    }

    private static void depthsOfFacets() {
        GemCut x = rough(3, 3, 3);
        x.cut(0, 1, 0, 0, 1);
        x.polish(0, 0);
        x.cut(0, -1, 0, 0, 0);
        x.polish(0, 1);
        // 212 + 50 + 40 and again 40, while the cell beneath would leave 98 alone
        Check.same("a facet to keep", 1, x.depth(0, 1, 0, 0));
        GemCut y = rough(4, 1, 1);
        y.flaw(3, 0, 0, 0, 5);
        y.cut(0, 1, 0, 0, 3);
        y.polish(0, 0);
        // 41 * 70 / 100 + 25 = 53 whole; 30 without the flaw and the facet
        Check.same("a polished facet outweighs a flaw", 3, y.depth(0, 1, 0, 0));
        y.flaw(3, 0, 0, 0, 9);
        // 41 * 16 / 100 + 25 = 31 still
        Check.same("and another one", 3, y.depth(0, 1, 0, 0));
        y.flaw(3, 0, 0, 0, 1);
        // 41 * 10 / 100 + 25 = 29
        Check.same("but not a third one", 2, y.depth(0, 1, 0, 0));
        for (int k = 0; k < 15; k++) {
            y.cut(0, 0, 1, 0, 100);
        }
        Check.same("it keeps 16 planes", 16, y.stone(0, 1));
        Check.same("depth does not mind", 2, y.depth(0, 1, 0, 0));
    }

    // ---- promise 16

    private static void ridding() {
        GemCut x = rough(3, 3, 3);
        x.flaw(1, 1, 1, 0, 5);
        x.flaw(2, 2, 2, 0, 5);
        x.flaw(2, 1, 1, 0, 5);
        x.flaw(2, 1, 2, 0, 5);
        x.flaw(1, 1, 1, 1, 5);
        x.flaw(0, 0, 0, 0, 5);
        long before = x.digest();
        // x + y + z is 0 to 6 for 1, 3, 6, 7, 6, 3, 1 cells, and each corner is like the other
        rid(x, "the midst", 0, 0, 0, -4, 17);
        rid(x, "the last corner", 1, 0, 26, 5, 1);
        rid(x, "the first corner", 5, 0, 0, -1, 1);
        // x > 1 takes 9; x - y > 0, x + y > 2 and the like take 9 too; three of them 10
        rid(x, "the midst of a side", 2, 0, 19, 0, 9);
        rid(x, "the midst of an edge", 3, 0, 23, 3, 3);
        // the least of the heights is 1 below that of the midst for each plane
        rid(x, "what reaches each side", 4, 0, 0, -5, 23);
        Check.same("nothing is changed", before, x.digest());
        Check.bounds(x, "rid(6, 0, 0)", () -> x.rid(6, 0, 0));
        Check.bounds(x, "rid(-1, 0, 0)", () -> x.rid(-1, 0, 0));
        Check.bounds(x, "rid(0, 1, 0)", () -> x.rid(0, 1, 0));
        Check.bounds(x, "rid(0, -1, 0)", () -> x.rid(0, -1, 0));
        Check.bounds(x, "rid(0, 0, 3)", () -> x.rid(0, 0, 3));
        Check.bounds(x, "rid(0, 0, -1)", () -> x.rid(0, 0, -1));
        Check.bounds(x, "rid(LEAST, MOST, MOST)", () -> x.rid(LEAST, MOST, MOST));
    }

    private static void riddingEachWay() {
        GemCut x = rough(9, 9, 9);
        x.flaw(0, 4, 4, 1, 1);
        x.flaw(8, 4, 4, 1, 1);
        x.flaw(4, 0, 4, 1, 1);
        x.flaw(4, 8, 4, 1, 1);
        x.flaw(4, 4, 0, 1, 1);
        x.flaw(4, 4, 8, 1, 1);
        // two layers; a plane of two directions would take 21 * 9
        int[] numbers = {4, 22, 10, 16, 12, 14};
        for (int f = 0; f < 6; f++) {
            rid(x, "by the side " + f, f, 0, numbers[f], f % 2 == 0 ? -2 : 6, 162);
        }
        x.flaw(4, 8, 8, 0, 1);
        x.flaw(0, 4, 8, 0, 1);
        x.flaw(0, 0, 4, 0, 1);
        x.flaw(8, 0, 8, 0, 1);
        rid(x, "by the edge of y and z", 6, 0, 17, 15, 9);
        rid(x, "by the edge of x and z", 7, 0, 5, 7, 9);
        rid(x, "by the edge of x and y", 8, 0, 1, -1, 9);
        rid(x, "by a corner", 9, 0, 20, 15, 1);
    }

    private static void riddingOfParts() {
        GemCut x = rough(6, 1, 1);
        x.flaw(2, 0, 0, 1, 1);
        rid(x, "of the whole rod", 0, 0, 0, -4, 4);
        x.saw(0, 1, 0, 0, 1);
        rid(x, "of the left part", 0, 0, 18, 0, 1);
        rid(x, "of the right part", 0, 1, 0, -4, 2);
        x.cut(0, 1, 0, 0, 0);
        rid(x, "it is off", 0, 0, -1, -1000, -1);
        x.cut(0, 1, 0, 0, -1);
        rid(x, "the stone is empty", 0, 0, -1, -1000, -1);
        GemCut y = rough(1, 1, 1);
        y.flaw(0, 0, 0, 3, 9);
        rid(y, "all there is", 0, 0, 0, -1, 1);
        for (int k = 0; k < 16; k++) {
            y.cut(0, 0, 1, 0, 100);
        }
        rid(y, "with 16 planes", 0, 0, 0, -1, 1);
        GemCut z = rough(10, 10, 10);
        z.cut(0, 0, 0, 1, 8);
        z.flaw(4, 4, 4, 3, 9);
        Check.same("beyond the wheel", true, 3 * z.rid(0, 0, 2) > z.count(5));
    }

    // ---- promise 17

    private static void kept() {
        GemCut x = rough(4, 3, 2);
        Check.same("all", 1.0, x.kept());
        x.cut(0, 1, 0, 0, 2);
        Check.same("18 of 24", 18.0 / 24.0, x.kept());
        x.saw(0, 0, 1, 0, 0);
        Check.same("in two stones", 0.75, x.kept());
        x.cut(1, 0, 0, 1, 0);
        Check.same("12 of 24", 0.5, x.kept());
        x.cut(1, 0, 0, 1, -1);
        x.cut(0, 0, 0, 1, -1);
        Check.same("none", 0.0, x.kept());
        x.take(1, 1, 1);
        Check.same("of a single cell", 1.0, x.kept());
        x.take(3, 1, 1);
        Check.same("of another rough", 1.0, x.kept());
        x.cut(0, 1, 0, 0, 1);
        Check.same("2 of 3", 2.0 / 3.0, x.kept());
    }

    // ---- promise 18

    private static void digest() {
        GemCut x = rough(1, 1, 1);
        // 577, then 1, 1, 1, 1, 0, 400, 10, 0, then 0, then 1, 0, 0, 0, 0, 0, 0, 10, 1
        long due = 577;
        int[] told = {1, 1, 1, 1, 0, 400, 10, 0, 0, 1, 0, 0, 0, 0, 0, 0, 10, 1};
        for (int t : told) {
            due = due * 31 + t;
        }
        Check.same("of a single cell", due, x.digest());
        x.flaw(0, 0, 0, 0, 2);
        x.cut(0, 1, -2, 3, 0);
        due = 577;
        int[] more = {1, 1, 1, 1, 1, 400, 8, 0, 0, 1, 1, 1, 0, 0, 1, 0, 8, 1, 1, -2, 3, 0, 1, 0, 1, 1, 1};
        for (int t : more) {
            due = due * 31 + t;
        }
        Check.same("with a flaw and a plane", due, x.digest());
        Check.same("twice the same", due, x.digest());
        GemCut y = rough(4, 3, 5);
        y.flaw(1, 1, 1, 1, 4);
        y.flaw(3, 2, 4, 2, 9);
        y.cut(0, 1, 1, 1, 8);
        y.saw(0, 1, 0, -1, 0);
        y.cut(1, 0, -1, 0, -1);
        y.polish(1, 0);
        y.cut(0, -1, 0, 0, 0);
        Check.same("of two stones", folded(y, 4, 3, 5), y.digest());
    }

    private static long folded(GemCut x, int columns, int rows, int layers) {
        long d = 577;
        for (int what = 0; what <= 7; what++) {
            d = d * 31 + x.count(what);
        }
        for (int c = 0; c < columns * rows * layers; c++) {
            d = d * 31 + x.cell(c % columns, c / columns % rows, c / columns / rows);
        }
        for (int s = 0; s < x.count(2); s++) {
            for (int what = 0; what <= 8; what++) {
                d = d * 31 + x.stone(s, what);
            }
            for (int k = 0; k < x.stone(s, 1); k++) {
                for (int what = 0; what <= 5; what++) {
                    d = d * 31 + x.plane(s, k, what);
                }
            }
        }
        for (int f = 0; f < x.count(4); f++) {
            for (int s = 0; s < x.count(2); s++) {
                for (int what = 0; what <= 2; what++) {
                    d = d * 31 + x.flawIn(f, s, what);
                }
            }
        }
        return d;
    }

    // ---- README.md

    private static void theExampleOfTheReadme() {
        GemCut bench = new GemCut();
        int flaw = bench.flaw(5, 5, 5, 2, 3);
        Check.same("the flaw", 0, flaw);
        Check.same("the plane 1, 1, 1", 26, bench.rid(flaw, 0, 0));
        int depth = bench.rid(flaw, 0, 1);
        Check.same("its depth", 12, depth);
        Check.same("the cells that it takes away", 10, bench.cut(0, 1, 1, 1, depth));
        Check.same("turns of the wheel", 400 - 30, bench.count(5));
        Check.same("10 cells touch its facet", 15, bench.polish(0, 0));
        // 206 cells: 4243 and 2060, without the flaw, and 25
        Check.same("its worth", 6328, bench.stone(0, 7));
    }
}
