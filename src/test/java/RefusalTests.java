/**
 * Each "Throws" line of the document: the last argument that is taken and the first one that is not, at both ends,
 * what is empty and what is full, which exception comes first, and that nothing is changed by a call that throws.
 */
public final class RefusalTests {
    private static final Twins.Step WORKED = Benches::worked;
    private static final Twins.Step FACETED = Benches::faceted;

    private RefusalTests() {
    }

    public static void main(String[] args) {
        takeWantsSides();
        flawWantsItsCell();
        flawWantsRadiusAndSeverity();
        flawWantsRoomForIt();
        flawNamesFirst();
        cellWantsItsCell();
        flawInWantsItsThree();
        sawWantsItsStone();
        sawWantsItsPlane();
        sawWantsRoomForTheNewStone();
        sawWantsCellsOnBothSides();
        sawNamesFirst();
        cutWantsItsStone();
        cutWantsItsPlane();
        cutWantsRoomForItsPlane();
        cutWantsTurns();
        cutNamesFirst();
        polishWantsItsStoneAndPlane();
        polishWantsAFacet();
        polishWantsTurns();
        polishNamesFirst();
        stoneWantsItsTwo();
        planeWantsItsThree();
        angleWantsItsThree();
        countWantsItsWhat();
        wouldWantsItsStoneAndWhat();
        wouldWantsItsPlane();
        wouldNamesFirst();
        depthWantsItsStone();
        depthWantsItsPlane();
        depthWantsCells();
        depthNamesFirst();
        ridWantsItsThree();
        Check.end();
    }

    private static Twins.Step flawed(int n) {
        return x -> Benches.flawed(x, n);
    }

    private static Twins.Step sawn(int n) {
        return x -> Benches.sawn(x, n);
    }

    private static Twins.Step planed(int n) {
        return x -> Benches.planed(x, n);
    }

    private static Twins.Step emptied(int n) {
        return x -> Benches.emptied(x, n);
    }

    private static Twins.Step turnsLeft(int n) {
        return x -> Benches.turnsLeft(x, n);
    }

    private static void bounds(String label, Twins.Step setup, Twins.Step call) {
        Twins.unchanged(label, Twins.BOUNDS, setup, call);
    }

    private static void argument(String label, Twins.Step setup, Twins.Step call) {
        Twins.unchanged(label, Twins.ARGUMENT, setup, call);
    }

    private static void state(String label, Twins.Step setup, Twins.Step call) {
        Twins.unchanged(label, Twins.STATE, setup, call);
    }

    /** From low to high the call is taken, and beyond both ends there is no such thing. */
    private static void boundsOutside(String label, int low, int high, Twins.StepAt call) {
        Twins.takenWithin(label, WORKED, low, high, call);
        Twins.refusedOutside(label, Twins.BOUNDS, WORKED, low, high, call);
    }

    private static void argumentOutside(String label, int low, int high, Twins.StepAt call) {
        Twins.takenWithin(label, WORKED, low, high, call);
        Twins.refusedOutside(label, Twins.ARGUMENT, WORKED, low, high, call);
    }

    // ---- promise 2

    private static void takeWantsSides() {
        argumentOutside("take: columns", 1, 10, (x, n) -> x.take(n, 2, 3));
        argumentOutside("take: rows", 1, 10, (x, n) -> x.take(2, n, 3));
        argumentOutside("take: layers", 1, 10, (x, n) -> x.take(2, 3, n));
        argument("take: all of them 0", WORKED, x -> x.take(0, 0, 0));
        argument("take: all of them 11", WORKED, x -> x.take(11, 11, 11));
        argument("take: two that make up for one another", WORKED, x -> x.take(-2, -2, 2));
        Twins.answers("take: the least rough", 1, WORKED, x -> x.take(1, 1, 1));
        Twins.answers("take: the greatest rough", 1000, WORKED, x -> x.take(10, 10, 10));
    }

    // ---- promise 3

    private static void flawWantsItsCell() {
        boundsOutside("flaw: x", 0, 3, (x, n) -> x.flaw(n, 1, 1, 1, 1));
        boundsOutside("flaw: y", 0, 2, (x, n) -> x.flaw(1, n, 1, 1, 1));
        boundsOutside("flaw: z", 0, 4, (x, n) -> x.flaw(1, 1, n, 1, 1));
        Twins.answers("flaw: the first cell", 2, WORKED, x -> x.flaw(0, 0, 0, 3, 9));
        Twins.answers("flaw: the last cell, which is gone", 2, WORKED, x -> x.flaw(3, 2, 4, 3, 9));
    }

    private static void flawWantsRadiusAndSeverity() {
        argumentOutside("flaw: radius", 0, 3, (x, n) -> x.flaw(1, 1, 1, n, 1));
        argumentOutside("flaw: severity", 1, 9, (x, n) -> x.flaw(1, 1, 1, 1, n));
    }

    private static void flawWantsRoomForIt() {
        Twins.answers("flaw: the tenth", 9, flawed(9), x -> x.flaw(1, 1, 1, 1, 1));
        state("flaw: the eleventh", flawed(10), x -> x.flaw(1, 1, 1, 1, 1));
        state("flaw: the eleventh, where nothing is", flawed(10), x -> x.flaw(3, 2, 4, 0, 1));
        Twins.answers("flaw: another rough has room again", 0, flawed(10), x -> {
            x.take(2, 2, 2);
            return x.flaw(1, 1, 1, 1, 1);
        });
    }

    private static void flawNamesFirst() {
        bounds("flaw: no cell, no radius", WORKED, x -> x.flaw(4, 0, 0, 4, 1));
        bounds("flaw: no cell, no severity", WORKED, x -> x.flaw(0, 0, -1, 0, 10));
        bounds("flaw: no cell, the eleventh", flawed(10), x -> x.flaw(0, 3, 0, 0, 1));
        bounds("flaw: no cell, no radius, the eleventh", flawed(10), x -> x.flaw(-1, 0, 0, -1, 0));
        argument("flaw: no radius, the eleventh", flawed(10), x -> x.flaw(0, 0, 0, 4, 1));
        argument("flaw: no severity, the eleventh", flawed(10), x -> x.flaw(0, 0, 0, 0, 0));
    }

    // ---- promise 4

    private static void cellWantsItsCell() {
        boundsOutside("cell: x", 0, 3, (x, n) -> x.cell(n, 0, 0));
        boundsOutside("cell: y", 0, 2, (x, n) -> x.cell(0, n, 0));
        boundsOutside("cell: z", 0, 4, (x, n) -> x.cell(0, 0, n));
        Twins.unchanged("cell: the first", 0, WORKED, x -> x.cell(0, 0, 0));
        Twins.unchanged("cell: the last of the stone", 0, WORKED, x -> x.cell(3, 2, 2));
        Twins.unchanged("cell: the last of all, which is gone", -1, WORKED, x -> x.cell(3, 2, 4));
    }

    // ---- promise 5

    private static void flawInWantsItsThree() {
        boundsOutside("flawIn: flaw", 0, 1, (x, n) -> x.flawIn(n, 0, 0));
        boundsOutside("flawIn: stone", 0, 2, (x, n) -> x.flawIn(0, n, 0));
        boundsOutside("flawIn: what", 0, 2, (x, n) -> x.flawIn(0, 0, n));
        bounds("flawIn: there is no flaw at all", Benches::untouched, x -> x.flawIn(0, 0, 0));
        bounds("flawIn: eleventh of ten", flawed(10), x -> x.flawIn(10, 0, 0));
        bounds("flawIn: ninth of eight", x -> {
            Benches.sawn(x, 8);
            return x.flaw(0, 0, 0, 0, 1);
        }, x -> x.flawIn(0, 8, 0));
    }

    // ---- promise 6

    private static void sawWantsItsStone() {
        Twins.takenWithin("saw: stone", WORKED, 0, 1, (x, n) -> x.saw(n, 0, 1, 0, 1));
        Twins.refusedOutside("saw: stone", Twins.BOUNDS, WORKED, 0, 2, (x, n) -> x.saw(n, 0, 1, 0, 1));
    }

    private static void sawWantsItsPlane() {
        argumentOutside("saw: p", -3, 3, (x, n) -> x.saw(0, n, 1, 0, 0));
        argumentOutside("saw: q", -3, 3, (x, n) -> x.saw(0, 1, n, 0, 0));
        argumentOutside("saw: r", -3, 3, (x, n) -> x.saw(0, 1, 0, n, 0));
        argument("saw: p, q and r are 0", WORKED, x -> x.saw(0, 0, 0, 0, 0));
        argument("saw: p, q and r are 0, all above", WORKED, x -> x.saw(0, 0, 0, 0, -1));
        Twins.refusedOutside("saw: d", Twins.ARGUMENT, WORKED, -100, 100, (x, n) -> x.saw(0, 1, 0, 0, n));
    }

    private static void sawWantsRoomForTheNewStone() {
        Twins.answers("saw: the eighth stone", 7, sawn(7), x -> x.saw(0, 1, 0, 0, 0));
        state("saw: the ninth stone", sawn(8), x -> x.saw(0, 0, 1, 0, 0));
        state("saw: the ninth stone, of the last one", sawn(8), x -> x.saw(7, 0, 1, 0, 0));
        state("saw: nothing is left of one of eight", x -> {
            Benches.sawn(x, 8);
            return x.cut(7, 1, 0, 0, -1);
        }, x -> x.saw(0, 0, 1, 0, 0));
        Twins.answers("saw: another rough has room again", 1, sawn(8), x -> {
            x.take(2, 2, 2);
            return x.saw(0, 1, 0, 0, 0);
        });
    }

    private static void sawWantsCellsOnBothSides() {
        state("saw: no cell would be of the new one", WORKED, x -> x.saw(0, 1, 0, 0, 3));
        Twins.answers("saw: some would", 3, WORKED, x -> x.saw(0, 1, 0, 0, 2));
        Twins.answers("saw: most would", 3, WORKED, x -> x.saw(0, 1, 0, 0, 0));
        state("saw: all would", WORKED, x -> x.saw(0, 1, 0, 0, -1));
        // x + y + z is 7 for the last cell of stone 0 alone, and 0 for the first one alone
        state("saw: no cell above the corner", WORKED, x -> x.saw(0, 1, 1, 1, 7));
        Twins.answers("saw: a single cell", 3, WORKED, x -> x.saw(0, 1, 1, 1, 6));
        Twins.answers("saw: all but one", 3, WORKED, x -> x.saw(0, 1, 1, 1, 0));
        state("saw: not even that one stays", WORKED, x -> x.saw(0, 1, 1, 1, -1));
        state("saw: the greatest depth", WORKED, x -> x.saw(0, 3, 3, 3, 100));
        state("saw: the least depth", WORKED, x -> x.saw(0, -3, -3, -3, -100));
        state("saw: a stone of a single cell, above", x -> x.take(1, 1, 1), x -> x.saw(0, 1, 0, 0, 0));
        state("saw: a stone of a single cell, beneath", x -> x.take(1, 1, 1), x -> x.saw(0, 1, 0, 0, -1));
        state("saw: a stone of which nothing is left", WORKED, x -> x.saw(2, 1, 0, 0, 2));
        // only the cells of the stone count, not those of the others beside it
        state("saw: others are above", sawn(3), x -> x.saw(0, 1, 0, 0, 5));
        state("saw: others are beneath", sawn(3), x -> x.saw(1, 1, 0, 0, 6));
    }

    private static void sawNamesFirst() {
        bounds("saw: no stone, no plane", WORKED, x -> x.saw(3, 0, 0, 0, 0));
        bounds("saw: no stone, no p", WORKED, x -> x.saw(-1, 4, 0, 0, 0));
        bounds("saw: no stone, no d", WORKED, x -> x.saw(3, 1, 0, 0, 101));
        bounds("saw: no stone, the ninth", sawn(8), x -> x.saw(8, 0, 1, 0, 0));
        bounds("saw: no stone, no d, the ninth", sawn(8), x -> x.saw(8, 0, 1, 0, -101));
        argument("saw: no plane, the ninth", sawn(8), x -> x.saw(0, 0, 0, 0, 0));
        argument("saw: no q, the ninth", sawn(8), x -> x.saw(0, 0, -4, 0, 0));
        argument("saw: no d, the ninth", sawn(8), x -> x.saw(0, 0, 1, 0, 101));
        argument("saw: no d, no cell above", WORKED, x -> x.saw(0, 1, 0, 0, 101));
        argument("saw: no d, all cells above", WORKED, x -> x.saw(0, 1, 0, 0, -101));
        argument("saw: no r, nothing is left", WORKED, x -> x.saw(2, 0, 0, 4, 0));
        argument("saw: no d, nothing is left", WORKED, x -> x.saw(2, 1, 0, 0, -101));
        argument("saw: no plane, nothing is left", WORKED, x -> x.saw(2, 0, 0, 0, 0));
    }

    // ---- promise 7

    private static void cutWantsItsStone() {
        boundsOutside("cut: stone", 0, 2, (x, n) -> x.cut(n, 1, 0, 0, 1));
        Twins.answers("cut: a stone of which nothing is left", 0, WORKED, x -> x.cut(2, -3, -3, -3, -100));
    }

    private static void cutWantsItsPlane() {
        argumentOutside("cut: p", -3, 3, (x, n) -> x.cut(0, n, 1, 0, 2));
        argumentOutside("cut: q", -3, 3, (x, n) -> x.cut(0, 1, n, 0, 2));
        argumentOutside("cut: r", -3, 3, (x, n) -> x.cut(0, 1, 0, n, 2));
        argumentOutside("cut: d", -100, 100, (x, n) -> x.cut(0, 1, 0, 0, n));
        argument("cut: p, q and r are 0", WORKED, x -> x.cut(0, 0, 0, 0, 0));
        argument("cut: p, q and r are 0, all above", WORKED, x -> x.cut(0, 0, 0, 0, -1));
        Twins.answers("cut: the greatest depth", 0, WORKED, x -> x.cut(0, 1, 0, 0, 100));
        Twins.answers("cut: the least depth", 36, WORKED, x -> x.cut(0, 1, 0, 0, -100));
    }

    private static void cutWantsRoomForItsPlane() {
        Twins.answers("cut: the sixteenth plane", 4, planed(15), x -> x.cut(0, 1, 0, 0, 0));
        state("cut: the seventeenth plane", planed(16), x -> x.cut(0, 1, 0, 0, 0));
        state("cut: the seventeenth plane, which takes nothing", planed(16), x -> x.cut(0, 1, 0, 0, 1));
        Twins.answers("cut: the sixteenth plane of nothing", 0, emptied(15), x -> x.cut(0, 1, 0, 0, 0));
        state("cut: the seventeenth plane of nothing", emptied(16), x -> x.cut(0, 1, 0, 0, 0));
        Twins.answers("cut: the new stone of a sawing has room", 2, planed(16), x -> {
            x.saw(0, 1, 0, 0, 0);
            return x.cut(1, 0, 1, 0, 0);
        });
        state("cut: the old stone has none", x -> {
            Benches.planed(x, 16);
            return x.saw(0, 1, 0, 0, 0);
        }, x -> x.cut(0, 0, 1, 0, 0));
        Twins.answers("cut: another rough has room again", 4, planed(16), x -> {
            x.take(2, 2, 2);
            return x.cut(0, 1, 0, 0, 0);
        });
    }

    private static void cutWantsTurns() {
        Twins.answers("cut: one cell with 3 turns", 1, turnsLeft(3), x -> x.cut(0, 1, 1, 1, 26));
        state("cut: one cell with 2 turns", turnsLeft(2), x -> x.cut(0, 1, 1, 1, 26));
        Twins.answers("cut: one cell with 5 turns", 1, turnsLeft(5), x -> x.cut(0, 1, 1, 1, 26));
        state("cut: four cells with 6 turns", turnsLeft(6), x -> x.cut(0, 1, 1, 1, 25));
        state("cut: one cell without turns", turnsLeft(0), x -> x.cut(0, 1, 1, 1, 26));
        Twins.answers("cut: nothing without turns", 0, turnsLeft(0), x -> x.cut(0, 1, 1, 1, 27));
        Twins.answers("cut: two cells with 6 turns", 2, turnsLeft(6), x -> x.cut(0, 1, 2, 3, 52));
        state("cut: two cells with 5 turns", turnsLeft(5), x -> x.cut(0, 1, 2, 3, 52));
        Twins.Step of134 = x -> {
            x.take(10, 7, 2);
            return x.saw(0, 1, 1, 0, 13);
        };
        state("cut: 134 cells with 400 turns", of134, x -> x.cut(0, 1, 0, 0, -1));
        Twins.answers("cut: 133 cells with 400 turns", 133, of134, x -> {
            x.saw(0, -1, -1, -1, -1);
            return x.cut(0, 1, 0, 0, -1);
        });
    }

    private static void cutNamesFirst() {
        bounds("cut: no stone, no plane", WORKED, x -> x.cut(3, 0, 0, 0, 0));
        bounds("cut: no stone, no d", WORKED, x -> x.cut(-1, 1, 0, 0, -101));
        bounds("cut: no stone, the seventeenth", planed(16), x -> x.cut(1, 1, 0, 0, 0));
        bounds("cut: no stone, no turns", turnsLeft(0), x -> x.cut(1, 1, 0, 0, 0));
        bounds("cut: no stone, no r, the seventeenth", planed(16), x -> x.cut(1, 0, 0, 4, 0));
        argument("cut: no plane, the seventeenth", planed(16), x -> x.cut(0, 0, 0, 0, 0));
        argument("cut: no q, the seventeenth", planed(16), x -> x.cut(0, 0, 4, 0, 0));
        argument("cut: no d, the seventeenth", planed(16), x -> x.cut(0, 1, 0, 0, 101));
        argument("cut: no p, no turns", turnsLeft(0), x -> x.cut(0, -4, 0, 0, 0));
        argument("cut: no d, no turns", turnsLeft(0), x -> x.cut(0, 1, 0, 0, -101));
    }

    // ---- promise 8

    private static void polishWantsItsStoneAndPlane() {
        Twins.refusedOutside("polish: stone", Twins.BOUNDS, FACETED, 0, 2, (x, n) -> x.polish(n, 0));
        Twins.refusedOutside("polish: plane", Twins.BOUNDS, FACETED, 0, 2, (x, n) -> x.polish(0, n));
        Twins.refusedOutside("polish: plane of the empty", Twins.BOUNDS, FACETED, 0, 0, (x, n) -> x.polish(2, n));
        bounds("polish: a stone that keeps none", FACETED, x -> x.polish(1, 0));
        bounds("polish: a new object", Benches::untouched, x -> x.polish(0, 0));
        bounds("polish: the seventeenth", planed(16), x -> x.polish(0, 16));
        Twins.answers("polish: the last plane", 17, FACETED, x -> x.polish(0, 2));
        Twins.answers("polish: the first of sixteen", 9, planed(16), x -> x.polish(0, 0));
        Twins.answers("polish: the last of sixteen", 9, planed(16), x -> x.polish(0, 15));
    }

    private static void polishWantsAFacet() {
        state("polish: no facet now", FACETED, x -> x.polish(0, 0));
        state("polish: polished", FACETED, x -> x.polish(0, 1));
        state("polish: nothing is left", FACETED, x -> x.polish(2, 0));
        Twins.Step polishedAndOff = x -> {
            Benches.worked(x);
            return x.cut(0, 1, 0, 0, -1);
        };
        state("polish: polished, and no facet now", polishedAndOff, x -> x.polish(0, 1));
        Twins.Step rod = x -> {
            x.take(5, 1, 1);
            x.cut(0, 1, 0, 0, 4);
            return x.cut(0, 1, 0, 0, 5);
        };
        Twins.answers("polish: one cell just touches", 6, rod, x -> x.polish(0, 0));
        state("polish: one cell just doesn't", rod, x -> x.polish(0, 1));
    }

    private static void polishWantsTurns() {
        Twins.answers("polish: 6 turns of 6", 6, turnsLeft(6), x -> x.polish(0, x.stone(0, 1) - 1));
        state("polish: 6 turns of 5", turnsLeft(5), x -> x.polish(0, x.stone(0, 1) - 1));
        state("polish: 6 turns of 0", turnsLeft(0), x -> x.polish(0, x.stone(0, 1) - 1));
        Twins.answers("polish: 6 turns of 6, and none are left", 0, turnsLeft(6), x -> {
            x.polish(0, x.stone(0, 1) - 1);
            return x.count(5);
        });
        Twins.Step slab = x -> {
            x.take(10, 10, 10);
            return x.cut(0, 0, 0, 1, 8);
        };
        state("polish: 105 turns of 100", slab, x -> x.polish(0, 0));
        Twins.answers("polish: 105 turns of 400", 105, slab, x -> {
            x.dress();
            return x.polish(0, 0);
        });
    }

    private static void polishNamesFirst() {
        bounds("polish: no stone, no turns", turnsLeft(0), x -> x.polish(1, 0));
        bounds("polish: no plane, no turns", turnsLeft(0), x -> x.polish(0, 16));
        bounds("polish: no plane of the empty, which has no facet", FACETED, x -> x.polish(2, 1));
        state("polish: polished, no turns", turnsLeft(0), x -> x.polish(0, 0));
    }

    // ---- promises 10 to 13

    private static void stoneWantsItsTwo() {
        boundsOutside("stone: stone", 0, 2, (x, n) -> x.stone(n, 0));
        boundsOutside("stone: what", 0, 8, (x, n) -> x.stone(0, n));
        boundsOutside("stone: what of the empty", 0, 8, (x, n) -> x.stone(2, n));
        bounds("stone: the ninth", sawn(8), x -> x.stone(8, 0));
        Twins.unchanged("stone: the eighth", 4, sawn(8), x -> x.stone(7, 0));
        bounds("stone: a new object's second", Benches::untouched, x -> x.stone(1, 0));
    }

    private static void planeWantsItsThree() {
        Twins.refusedOutside("plane: stone", Twins.BOUNDS, WORKED, 0, 2, (x, n) -> x.plane(n, 0, 0));
        boundsOutside("plane: plane", 0, 1, (x, n) -> x.plane(0, n, 0));
        boundsOutside("plane: plane of the empty", 0, 0, (x, n) -> x.plane(2, n, 0));
        boundsOutside("plane: what", 0, 5, (x, n) -> x.plane(0, 0, n));
        bounds("plane: a stone that keeps none", WORKED, x -> x.plane(1, 0, 0));
        bounds("plane: the seventeenth", planed(16), x -> x.plane(0, 16, 0));
        Twins.unchanged("plane: the sixteenth", 4, planed(16), x -> x.plane(0, 15, 4));
    }

    private static void angleWantsItsThree() {
        Twins.refusedOutside("angle: stone", Twins.BOUNDS, WORKED, 0, 2, (x, n) -> x.angle(n, 0, 0));
        boundsOutside("angle: a", 0, 1, (x, n) -> x.angle(0, n, 0));
        boundsOutside("angle: b", 0, 1, (x, n) -> x.angle(0, 0, n));
        bounds("angle: a stone that keeps none", WORKED, x -> x.angle(1, 0, 0));
        bounds("angle: the seventeenth", planed(16), x -> x.angle(0, 0, 16));
        bounds("angle: with the seventeenth", planed(16), x -> x.angle(0, 16, 15));
        Twins.unchanged("angle: the last of all", 100, planed(16), x -> x.angle(0, 15, 15));
        Twins.unchanged("angle: of the empty", 100, WORKED, x -> x.angle(2, 0, 0));
    }

    private static void countWantsItsWhat() {
        boundsOutside("count: what", 0, 7, (x, n) -> x.count(n));
    }

    // ---- promise 14

    private static void wouldWantsItsStoneAndWhat() {
        boundsOutside("would: stone", 0, 2, (x, n) -> x.would(n, 1, 0, 0, 1, 0));
        boundsOutside("would: what", 0, 3, (x, n) -> x.would(0, 1, 0, 0, 1, n));
    }

    private static void wouldWantsItsPlane() {
        argumentOutside("would: p", -3, 3, (x, n) -> x.would(0, n, 1, 0, 2, 1));
        argumentOutside("would: q", -3, 3, (x, n) -> x.would(0, 1, n, 0, 2, 1));
        argumentOutside("would: r", -3, 3, (x, n) -> x.would(0, 1, 0, n, 2, 1));
        argumentOutside("would: d", -100, 100, (x, n) -> x.would(0, 1, 0, 0, n, 1));
        argument("would: p, q and r are 0", WORKED, x -> x.would(0, 0, 0, 0, 0, 0));
        argument("would: p, q and r are 0, of the empty", WORKED, x -> x.would(2, 0, 0, 0, 0, 0));
        Twins.unchanged("would: the greatest depth", 0, WORKED, x -> x.would(0, 1, 0, 0, 100, 0));
        Twins.unchanged("would: the least depth", 36, WORKED, x -> x.would(0, 1, 0, 0, -100, 0));
    }

    private static void wouldNamesFirst() {
        bounds("would: no stone, no plane", WORKED, x -> x.would(3, 0, 0, 0, 0, 0));
        bounds("would: no stone, no d", WORKED, x -> x.would(-1, 1, 0, 0, 101, 0));
        bounds("would: no what, no plane", WORKED, x -> x.would(0, 0, 0, 0, 0, 4));
        bounds("would: no what, no p", WORKED, x -> x.would(0, 4, 0, 0, 0, -1));
        bounds("would: no what, no d", WORKED, x -> x.would(0, 1, 0, 0, -101, 4));
    }

    // ---- promise 15

    private static void depthWantsItsStone() {
        Twins.takenWithin("depth: stone", WORKED, 0, 1, (x, n) -> x.depth(n, 1, 0, 0));
        Twins.refusedOutside("depth: stone", Twins.BOUNDS, WORKED, 0, 2, (x, n) -> x.depth(n, 1, 0, 0));
    }

    private static void depthWantsItsPlane() {
        argumentOutside("depth: p", -3, 3, (x, n) -> x.depth(0, n, 1, 0));
        argumentOutside("depth: q", -3, 3, (x, n) -> x.depth(0, 1, n, 0));
        argumentOutside("depth: r", -3, 3, (x, n) -> x.depth(0, 1, 0, n));
        argument("depth: p, q and r are 0", WORKED, x -> x.depth(0, 0, 0, 0));
    }

    private static void depthWantsCells() {
        state("depth: nothing is left", WORKED, x -> x.depth(2, 1, 0, 0));
        state("depth: nothing is left of all", emptied(1), x -> x.depth(0, -1, 0, 0));
        Twins.unchanged("depth: one cell is left", 0, x -> {
            x.take(2, 1, 1);
            return x.cut(0, 1, 0, 0, 0);
        }, x -> x.depth(0, 1, 0, 0));
    }

    private static void depthNamesFirst() {
        bounds("depth: no stone, no plane", WORKED, x -> x.depth(3, 0, 0, 0));
        bounds("depth: no stone, no p", WORKED, x -> x.depth(-1, 4, 0, 0));
        argument("depth: no plane, nothing is left", WORKED, x -> x.depth(2, 0, 0, 0));
        argument("depth: no r, nothing is left", WORKED, x -> x.depth(2, 0, 0, -4));
    }

    // ---- promise 16

    private static void ridWantsItsThree() {
        boundsOutside("rid: flaw", 0, 1, (x, n) -> x.rid(n, 0, 0));
        boundsOutside("rid: stone", 0, 2, (x, n) -> x.rid(0, n, 0));
        boundsOutside("rid: what", 0, 2, (x, n) -> x.rid(0, 0, n));
        boundsOutside("rid: what, if the flaw is not in it", 0, 2, (x, n) -> x.rid(0, 2, n));
        bounds("rid: there is no flaw at all", Benches::untouched, x -> x.rid(0, 0, 0));
        bounds("rid: eleventh of ten", flawed(10), x -> x.rid(10, 0, 0));
    }
}
