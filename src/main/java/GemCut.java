/** A bench on which gems are cut from a rough. ../shared/DOC.md says what each call promises. */
public final class GemCut {
    private static final int FIRST_SIDE = 6;
    private static final int MOST_SIDE = 10;
    private static final int MOST_CELLS = 1000;
    private static final int MOST_FLAWS = 10;
    private static final int MOST_RADIUS = 3;
    private static final int MOST_SEVERITY = 9;
    /** A flaw of radius 3 has 1 + 6 + 18 + 38 cells. */
    private static final int MOST_FLAW_CELLS = 63;
    private static final int MOST_STONES = 8;
    private static final int MOST_PLANES = 16;
    private static final int STEEPEST = 3;
    private static final int DEEPEST = 100;
    /** No cell is higher than 3 * 9 in each of the three directions, nor lower than that below 0. */
    private static final int MOST_HEIGHT = 81;

    private static final int FULL_WHEEL = 400;
    private static final int TURNS_FOR_CELL = 3;
    private static final int TURNS_FOR_POLISH = 5;

    private static final int GONE = -1;
    private static final int ABSENT = -1;
    private static final int HIDDEN = 0;
    private static final int OPEN = 1;
    /** Above each depth: a plane with this floor is a facet at none. */
    private static final int NO_FLOOR = 1000;
    private static final int NO_DEPTH = -1000;
    private static final int NO_ANSWER = -1;

    private static final int COUNTS = 8;
    private static final int STONE_TELLS = 9;
    private static final int PLANE_TELLS = 6;
    private static final int FLAW_TELLS = 3;
    private static final int WOULD_TELLS = 4;
    private static final int RID_TELLS = 3;
    private static final long DIGEST_START = 577L;

    private final Rough rough;
    private final Stone[] stones;
    private final Trial trial;
    private int stoneCount;
    private int turns;
    private int spent;

    public GemCut() {
        rough = new Rough();
        stones = new Stone[MOST_STONES];
        for (int s = 0; s < MOST_STONES; s++) {
            stones[s] = new Stone(s);
        }
        trial = new Trial(rough, stones[0]);
        beginRough(FIRST_SIDE, FIRST_SIDE, FIRST_SIDE);
    }

    // ---- rough and flaws

    public int take(int columns, int rows, int layers) throws IllegalArgumentException {
        if (!isSide(columns) || !isSide(rows) || !isSide(layers)) {
            throw new IllegalArgumentException("a side of the rough is not 1 to 10");
        }
        beginRough(columns, rows, layers);
        return rough.size();
    }

    public int flaw(int x, int y, int z, int radius, int severity)
            throws IndexOutOfBoundsException, IllegalArgumentException, IllegalStateException {
        wantCell(x, y, z);
        if (radius < 0 || radius > MOST_RADIUS || severity < 1 || severity > MOST_SEVERITY) {
            throw new IllegalArgumentException("radius is not 0 to 3, or severity is not 1 to 9");
        }
        if (rough.flawCount >= MOST_FLAWS) {
            throw new IllegalStateException("there are 10 flaws");
        }
        rough.addFlaw(x, y, z, radius, severity);
        return rough.flawCount - 1;
    }

    public int cell(int x, int y, int z) throws IndexOutOfBoundsException {
        wantCell(x, y, z);
        return rough.ownerAt(x, y, z);
    }

    public int flawIn(int flaw, int stone, int what) throws IndexOutOfBoundsException {
        wantFlaw(flaw);
        wantStone(stone);
        wantWhat(what, FLAW_TELLS);
        return tellOfFlaw(flaw, stone, what);
    }

    // ---- sawing and cutting

    public int saw(int stone, int p, int q, int r, int d)
            throws IndexOutOfBoundsException, IllegalArgumentException, IllegalStateException {
        wantStone(stone);
        wantSlope(p, q, r);
        wantDepth(d);
        trial.level(stones[stone], p, q, r);
        int taken = trial.lossAt(d);
        if (stoneCount >= MOST_STONES || taken == 0 || taken == stones[stone].weight) {
            throw new IllegalStateException("there are 8 stones, or one of the two would be empty");
        }
        int made = stoneCount;
        stones[made].dropPlanes();
        stoneCount++;
        trial.giveAbove(d, made);
        survey();
        return made;
    }

    public int cut(int stone, int p, int q, int r, int d)
            throws IndexOutOfBoundsException, IllegalArgumentException, IllegalStateException {
        wantStone(stone);
        wantSlope(p, q, r);
        wantDepth(d);
        Stone piece = stones[stone];
        trial.level(piece, p, q, r);
        int taken = trial.lossAt(d);
        int price = TURNS_FOR_CELL * taken;
        if (piece.planeCount >= MOST_PLANES || price > turns) {
            throw new IllegalStateException("it keeps 16 planes, or the wheel has not enough turns");
        }
        piece.keep(p, q, r, d);
        trial.giveAbove(d, GONE);
        spend(price);
        survey();
        return taken;
    }

    public int polish(int stone, int plane) throws IndexOutOfBoundsException, IllegalStateException {
        wantStone(stone);
        wantPlane(stone, plane);
        Plane facet = stones[stone].planes[plane];
        int price = facet.touching + TURNS_FOR_POLISH;
        if (!facet.isFacet() || facet.polished || price > turns) {
            throw new IllegalStateException("it is no facet now, or polished, or the wheel has not enough turns");
        }
        facet.polished = true;
        spend(price);
        return price;
    }

    public int dress() {
        int had = turns;
        turns = FULL_WHEEL;
        return had;
    }

    // ---- what is there

    public int stone(int stone, int what) throws IndexOutOfBoundsException {
        wantStone(stone);
        wantWhat(what, STONE_TELLS);
        return tellOfStone(stones[stone], what);
    }

    public int plane(int stone, int plane, int what) throws IndexOutOfBoundsException {
        wantStone(stone);
        wantPlane(stone, plane);
        wantWhat(what, PLANE_TELLS);
        return stones[stone].planes[plane].tell(what);
    }

    public int angle(int stone, int a, int b) throws IndexOutOfBoundsException {
        wantStone(stone);
        wantPlane(stone, a);
        wantPlane(stone, b);
        return stones[stone].planes[a].angleTo(stones[stone].planes[b]);
    }

    public int count(int what) throws IndexOutOfBoundsException {
        wantWhat(what, COUNTS);
        return tellCount(what);
    }

    // ---- what would be

    public int would(int stone, int p, int q, int r, int d, int what)
            throws IndexOutOfBoundsException, IllegalArgumentException {
        wantStone(stone);
        wantWhat(what, WOULD_TELLS);
        wantSlope(p, q, r);
        wantDepth(d);
        trial.aim(stones[stone], p, q, r);
        switch (what) {
            case 0:
                return trial.lossAt(d);
            case 1:
                return trial.worthAt(d);
            case 2:
                return trial.openFlawsAt(d);
            default:
                return trial.pairsAt(d);
        }
    }

    public int depth(int stone, int p, int q, int r)
            throws IndexOutOfBoundsException, IllegalArgumentException, IllegalStateException {
        wantStone(stone);
        wantSlope(p, q, r);
        if (stones[stone].weight == 0) {
            throw new IllegalStateException("nothing is left of the stone");
        }
        trial.aim(stones[stone], p, q, r);
        return trial.bestDepth();
    }

    public int rid(int flaw, int stone, int what) throws IndexOutOfBoundsException {
        wantFlaw(flaw);
        wantStone(stone);
        wantWhat(what, RID_TELLS);
        Flaw unwanted = rough.flaws[flaw];
        if (unwanted.stateIn(stone) == ABSENT) {
            return what == 1 ? NO_DEPTH : NO_ANSWER;
        }
        return trial.leastLoss(stones[stone], unwanted, what);
    }

    public double kept() {
        int all = rough.size();
        return all == 0 ? 0.0 : (double) cellsOfStones() / (double) all;
    }

    public long digest() {
        long sum = DIGEST_START;
        for (int what = 0; what < COUNTS; what++) {
            sum = sum * 31 + tellCount(what);
        }
        int size = rough.size();
        for (int i = 0; i < size; i++) {
            sum = sum * 31 + rough.owner[i];
        }
        for (int s = 0; s < stoneCount; s++) {
            sum = addStone(sum, stones[s]);
        }
        for (int f = 0; f < rough.flawCount; f++) {
            for (int s = 0; s < stoneCount; s++) {
                for (int what = 0; what < FLAW_TELLS; what++) {
                    sum = sum * 31 + tellOfFlaw(f, s, what);
                }
            }
        }
        return sum;
    }

    // ---- what a call wants of its arguments

    private static boolean isSide(int length) {
        return length >= 1 && length <= MOST_SIDE;
    }

    private void wantCell(int x, int y, int z) {
        if (!rough.holds(x, y, z)) {
            throw new IndexOutOfBoundsException("there is no such cell in the rough");
        }
    }

    private void wantFlaw(int flaw) {
        if (flaw < 0 || flaw >= rough.flawCount) {
            throw new IndexOutOfBoundsException("there is no such flaw");
        }
    }

    private void wantStone(int stone) {
        if (stone < 0 || stone >= stoneCount) {
            throw new IndexOutOfBoundsException("there is no such stone");
        }
    }

    private void wantPlane(int stone, int plane) {
        if (plane < 0 || plane >= stones[stone].planeCount) {
            throw new IndexOutOfBoundsException("the stone keeps no such plane");
        }
    }

    private static void wantWhat(int what, int tells) {
        if (what < 0 || what >= tells) {
            throw new IndexOutOfBoundsException("there is no such what");
        }
    }

    private static void wantSlope(int p, int q, int r) {
        if (!isSteepness(p) || !isSteepness(q) || !isSteepness(r) || (p == 0 && q == 0 && r == 0)) {
            throw new IllegalArgumentException("p, q or r is not -3 to 3, or all are 0");
        }
    }

    private static boolean isSteepness(int a) {
        return a >= -STEEPEST && a <= STEEPEST;
    }

    private static void wantDepth(int d) {
        if (d < -DEEPEST || d > DEEPEST) {
            throw new IllegalArgumentException("d is not -100 to 100");
        }
    }

    // ---- the state of the bench

    private void beginRough(int columns, int rows, int layers) {
        rough.begin(columns, rows, layers);
        stones[0].dropPlanes();
        stoneCount = 1;
        turns = FULL_WHEEL;
        spent = 0;
        survey();
    }

    private void spend(int price) {
        turns -= price;
        spent += price;
    }

    /** Counts anew whatever hangs on the cells, so that the calls that only tell need not. */
    private void survey() {
        for (int s = 0; s < stoneCount; s++) {
            stones[s].forgetCells();
        }
        int i = 0;
        for (int z = 0; z < rough.layers; z++) {
            for (int y = 0; y < rough.rows; y++) {
                for (int x = 0; x < rough.columns; x++) {
                    surveyCell(i, x, y, z);
                    i++;
                }
            }
        }
        for (int f = 0; f < rough.flawCount; f++) {
            rough.flaws[f].survey(rough);
        }
    }

    private void surveyCell(int i, int x, int y, int z) {
        int owner = rough.owner[i];
        if (owner < 0 || owner >= stoneCount) {
            return;
        }
        boolean bare = rough.isBare(owner, x, y, z);
        rough.bare[i] = bare;
        stones[owner].countCell(x, y, z, bare);
    }

    // ---- what is told, of checked arguments

    private int tellOfFlaw(int flaw, int stone, int what) {
        Flaw told = rough.flaws[flaw];
        switch (what) {
            case 0:
                return told.cellsIn[stone];
            case 1:
                return told.bareIn[stone];
            default:
                return told.stateIn(stone);
        }
    }

    private int tellOfStone(Stone piece, int what) {
        switch (what) {
            case 0:
                return piece.weight;
            case 1:
                return piece.planeCount;
            case 2:
                return piece.facets(false);
            case 3:
                return piece.facets(true);
            case 4:
                return piece.oppositePairs();
            case 5:
                return flawsOfState(piece.number, OPEN);
            case 6:
                return flawsOfState(piece.number, HIDDEN);
            case 7:
                return worthOf(piece);
            default:
                return piece.bareCells;
        }
    }

    private int tellCount(int what) {
        switch (what) {
            case 0:
                return rough.size();
            case 1:
                return cellsOfStones();
            case 2:
                return stoneCount;
            case 3:
                return stonesLeft();
            case 4:
                return rough.flawCount;
            case 5:
                return turns;
            case 6:
                return worthOfStones();
            default:
                return spent;
        }
    }

    private int flawsOfState(int stone, int state) {
        int found = 0;
        for (int f = 0; f < rough.flawCount; f++) {
            if (rough.flaws[f].stateIn(stone) == state) {
                found++;
            }
        }
        return found;
    }

    private int worthOf(Stone piece) {
        int points = 0;
        for (int f = 0; f < rough.flawCount; f++) {
            Flaw flaw = rough.flaws[f];
            points += flaw.pointsIf(flaw.stateIn(piece.number));
        }
        return worthBy(piece.weight, points, piece.facets(true), piece.oppositePairs());
    }

    private static int worthBy(int weight, int points, int polished, int pairs) {
        if (weight == 0) {
            return 0;
        }
        int percent = Math.max(10, 100 - points);
        int clear = weight * weight / 10 + 10 * weight;
        return clear * percent / 100 + 25 * polished + 40 * pairs;
    }

    private int cellsOfStones() {
        int cells = 0;
        for (int s = 0; s < stoneCount; s++) {
            cells += stones[s].weight;
        }
        return cells;
    }

    private int stonesLeft() {
        int left = 0;
        for (int s = 0; s < stoneCount; s++) {
            if (stones[s].weight > 0) {
                left++;
            }
        }
        return left;
    }

    private int worthOfStones() {
        int worth = 0;
        for (int s = 0; s < stoneCount; s++) {
            worth += worthOf(stones[s]);
        }
        return worth;
    }

    private long addStone(long sum, Stone piece) {
        long longer = sum;
        for (int what = 0; what < STONE_TELLS; what++) {
            longer = longer * 31 + tellOfStone(piece, what);
        }
        for (int k = 0; k < piece.planeCount; k++) {
            for (int what = 0; what < PLANE_TELLS; what++) {
                longer = longer * 31 + piece.planes[k].tell(what);
            }
        }
        return longer;
    }

    /** The block of cells, in the order z, y, x, and the flaws in it. */
    private static final class Rough {
        int columns;
        int rows;
        int layers;
        final int[] owner = new int[MOST_CELLS];
        /** Whether the cell is at the surface of its stone; of a cell that is gone it tells nothing. */
        final boolean[] bare = new boolean[MOST_CELLS];
        final Flaw[] flaws = new Flaw[MOST_FLAWS];
        int flawCount;

        Rough() {
            for (int f = 0; f < MOST_FLAWS; f++) {
                flaws[f] = new Flaw();
            }
        }

        void begin(int newColumns, int newRows, int newLayers) {
            columns = newColumns;
            rows = newRows;
            layers = newLayers;
            flawCount = 0;
            int size = size();
            for (int i = 0; i < size; i++) {
                owner[i] = 0;
            }
        }

        int size() {
            return columns * rows * layers;
        }

        boolean holds(int x, int y, int z) {
            return x >= 0 && x < columns && y >= 0 && y < rows && z >= 0 && z < layers;
        }

        int indexOf(int x, int y, int z) {
            return (z * rows + y) * columns + x;
        }

        /** Beyond the end of the rough there is nothing, just as where a cell is gone. */
        int ownerAt(int x, int y, int z) {
            return holds(x, y, z) ? owner[indexOf(x, y, z)] : GONE;
        }

        boolean isBare(int stone, int x, int y, int z) {
            return ownerAt(x - 1, y, z) != stone || ownerAt(x + 1, y, z) != stone
                    || ownerAt(x, y - 1, z) != stone || ownerAt(x, y + 1, z) != stone
                    || ownerAt(x, y, z - 1) != stone || ownerAt(x, y, z + 1) != stone;
        }

        void addFlaw(int x, int y, int z, int radius, int severity) {
            Flaw added = flaws[flawCount];
            added.begin(severity);
            for (int cz = z - radius; cz <= z + radius; cz++) {
                for (int cy = y - radius; cy <= y + radius; cy++) {
                    for (int cx = x - radius; cx <= x + radius; cx++) {
                        int away = Math.abs(cx - x) + Math.abs(cy - y) + Math.abs(cz - z);
                        if (away <= radius && holds(cx, cy, cz)) {
                            added.addCell(indexOf(cx, cy, cz));
                        }
                    }
                }
            }
            added.survey(this);
            flawCount++;
        }
    }

    /** A flaw: its cells in the rough, and how many of them each stone has, by the last survey. */
    private static final class Flaw {
        int severity;
        final int[] cells = new int[MOST_FLAW_CELLS];
        int cellCount;
        final int[] cellsIn = new int[MOST_STONES];
        final int[] bareIn = new int[MOST_STONES];

        void begin(int newSeverity) {
            severity = newSeverity;
            cellCount = 0;
        }

        void addCell(int i) {
            if (cellCount < MOST_FLAW_CELLS) {
                cells[cellCount] = i;
                cellCount++;
            }
        }

        void survey(Rough rough) {
            for (int s = 0; s < MOST_STONES; s++) {
                cellsIn[s] = 0;
                bareIn[s] = 0;
            }
            for (int k = 0; k < cellCount; k++) {
                int i = cells[k];
                int owner = rough.owner[i];
                if (owner >= 0 && owner < MOST_STONES) {
                    cellsIn[owner]++;
                    bareIn[owner] += rough.bare[i] ? 1 : 0;
                }
            }
        }

        int stateIn(int stone) {
            if (cellsIn[stone] == 0) {
                return ABSENT;
            }
            return bareIn[stone] > 0 ? OPEN : HIDDEN;
        }

        int pointsIf(int state) {
            switch (state) {
                case OPEN:
                    return 6 * severity;
                case HIDDEN:
                    return 2 * severity;
                default:
                    return 0;
            }
        }
    }

    /** A plane, and how many cells of its stone touch it, by the last survey. */
    private static final class Plane {
        int p;
        int q;
        int r;
        int d;
        /** The greatest of p, q, r without their signs: how much higher the highest neighbour of a cell is. */
        int reach;
        boolean polished;
        int touching;

        void set(int newP, int newQ, int newR, int newD) {
            p = newP;
            q = newQ;
            r = newR;
            d = newD;
            reach = Math.max(Math.abs(p), Math.max(Math.abs(q), Math.abs(r)));
            polished = false;
            touching = 0;
        }

        int heightOf(int x, int y, int z) {
            return p * x + q * y + r * z;
        }

        boolean touches(int x, int y, int z) {
            return heightOf(x, y, z) + reach > d;
        }

        boolean isFacet() {
            return touching > 0;
        }

        int productWith(Plane other) {
            return p * other.p + q * other.q + r * other.r;
        }

        int angleTo(Plane other) {
            int product = productWith(other);
            int squares = productWith(this) * other.productWith(other);
            if (squares == 0) {
                return 0;
            }
            int size = 100 * product * product / squares;
            return product < 0 ? -size : size;
        }

        boolean isOpposite(Plane other) {
            return p == -other.p && q == -other.q && r == -other.r;
        }

        int tell(int what) {
            switch (what) {
                case 0:
                    return p;
                case 1:
                    return q;
                case 2:
                    return r;
                case 3:
                    return d;
                case 4:
                    return touching;
                default:
                    return polished ? 1 : 0;
            }
        }
    }

    /** A stone: the planes that it keeps, and the numbers of its cells, by the last survey. */
    private static final class Stone {
        final int number;
        final Plane[] planes = new Plane[MOST_PLANES];
        int planeCount;
        int weight;
        int bareCells;

        Stone(int itsNumber) {
            number = itsNumber;
            for (int k = 0; k < MOST_PLANES; k++) {
                planes[k] = new Plane();
            }
        }

        void dropPlanes() {
            planeCount = 0;
        }

        void forgetCells() {
            weight = 0;
            bareCells = 0;
            for (int k = 0; k < planeCount; k++) {
                planes[k].touching = 0;
            }
        }

        void countCell(int x, int y, int z, boolean bare) {
            weight++;
            bareCells += bare ? 1 : 0;
            for (int k = 0; k < planeCount; k++) {
                if (planes[k].touches(x, y, z)) {
                    planes[k].touching++;
                }
            }
        }

        void keep(int p, int q, int r, int d) {
            if (planeCount < MOST_PLANES) {
                planes[planeCount].set(p, q, r, d);
                planeCount++;
            }
        }

        int facets(boolean polishedOnly) {
            int found = 0;
            for (int k = 0; k < planeCount; k++) {
                if (planes[k].isFacet() && (planes[k].polished || !polishedOnly)) {
                    found++;
                }
            }
            return found;
        }

        int oppositePairs() {
            int pairs = 0;
            for (int a = 0; a < planeCount; a++) {
                for (int b = a + 1; b < planeCount; b++) {
                    if (planes[a].isFacet() && planes[b].isFacet() && planes[a].isOpposite(planes[b])) {
                        pairs++;
                    }
                }
            }
            return pairs;
        }
    }

    /** What a cut of a stone would leave, for one plane after the other, at any depth; changes neither. */
    private static final class Trial {
        final Rough rough;
        Stone piece;
        final Plane tried = new Plane();
        /** Of all cells of the rough. */
        final int[] heights = new int[MOST_CELLS];
        /** How many cells of the stone are as high as -81, -80, .. 81, or lower. */
        final int[] upTo = new int[2 * MOST_HEIGHT + 1];
        /** For each plane that the stone keeps: the height of the lowest cell that touches it. */
        final int[] floors = new int[MOST_PLANES];

        Trial(Rough itsRough, Stone firstPiece) {
            rough = itsRough;
            piece = firstPiece;
        }

        /** Enough for lossAt and giveAbove. */
        void level(Stone newPiece, int p, int q, int r) {
            piece = newPiece;
            tried.set(p, q, r, 0);
            for (int h = 0; h < upTo.length; h++) {
                upTo[h] = 0;
            }
            int i = 0;
            for (int z = 0; z < rough.layers; z++) {
                for (int y = 0; y < rough.rows; y++) {
                    for (int x = 0; x < rough.columns; x++) {
                        levelCell(i, tried.heightOf(x, y, z));
                        i++;
                    }
                }
            }
            for (int h = 1; h < upTo.length; h++) {
                upTo[h] += upTo[h - 1];
            }
        }

        private void levelCell(int i, int height) {
            heights[i] = height;
            if (rough.owner[i] == piece.number && height >= -MOST_HEIGHT && height <= MOST_HEIGHT) {
                upTo[height + MOST_HEIGHT]++;
            }
        }

        /** Enough for all that is told of a depth. */
        void aim(Stone newPiece, int p, int q, int r) {
            level(newPiece, p, q, r);
            for (int k = 0; k < MOST_PLANES; k++) {
                floors[k] = NO_FLOOR;
            }
            int i = 0;
            for (int z = 0; z < rough.layers; z++) {
                for (int y = 0; y < rough.rows; y++) {
                    for (int x = 0; x < rough.columns; x++) {
                        if (rough.owner[i] == piece.number) {
                            lowerFloors(heights[i], x, y, z);
                        }
                        i++;
                    }
                }
            }
        }

        private void lowerFloors(int height, int x, int y, int z) {
            for (int k = 0; k < piece.planeCount; k++) {
                if (height < floors[k] && piece.planes[k].touches(x, y, z)) {
                    floors[k] = height;
                }
            }
        }

        int weightAt(int d) {
            if (d < -MOST_HEIGHT) {
                return 0;
            }
            return upTo[Math.min(d, MOST_HEIGHT) + MOST_HEIGHT];
        }

        int lossAt(int d) {
            return piece.weight - weightAt(d);
        }

        void giveAbove(int d, int newOwner) {
            int size = rough.size();
            for (int i = 0; i < size; i++) {
                if (rough.owner[i] == piece.number && heights[i] > d) {
                    rough.owner[i] = newOwner;
                }
            }
        }

        boolean wouldBeFacet(int d) {
            return weightAt(d) > weightAt(d - tried.reach);
        }

        int pairsAt(int d) {
            boolean isFacet = wouldBeFacet(d);
            int pairs = 0;
            for (int a = 0; a < piece.planeCount; a++) {
                if (floors[a] <= d) {
                    pairs += isFacet && piece.planes[a].isOpposite(tried) ? 1 : 0;
                    pairs += laterOpposites(a, d);
                }
            }
            return pairs;
        }

        private int laterOpposites(int a, int d) {
            int found = 0;
            for (int b = a + 1; b < piece.planeCount; b++) {
                if (floors[b] <= d && piece.planes[a].isOpposite(piece.planes[b])) {
                    found++;
                }
            }
            return found;
        }

        int polishedAt(int d) {
            int found = 0;
            for (int k = 0; k < piece.planeCount; k++) {
                if (floors[k] <= d && piece.planes[k].polished) {
                    found++;
                }
            }
            return found;
        }

        /**
         * A cell that was inside its stone has all its neighbours there, and the highest of them is higher by
         * the reach of the plane; so it comes to the surface just if it touches the plane.
         */
        int stateAt(Flaw flaw, int d) {
            int state = ABSENT;
            for (int k = 0; k < flaw.cellCount; k++) {
                int i = flaw.cells[k];
                if (rough.owner[i] == piece.number && heights[i] <= d) {
                    if (rough.bare[i] || heights[i] + tried.reach > d) {
                        return OPEN;
                    }
                    state = HIDDEN;
                }
            }
            return state;
        }

        int openFlawsAt(int d) {
            int found = 0;
            for (int f = 0; f < rough.flawCount; f++) {
                if (stateAt(rough.flaws[f], d) == OPEN) {
                    found++;
                }
            }
            return found;
        }

        int worthAt(int d) {
            int points = 0;
            for (int f = 0; f < rough.flawCount; f++) {
                points += rough.flaws[f].pointsIf(stateAt(rough.flaws[f], d));
            }
            return worthBy(weightAt(d), points, polishedAt(d), pairsAt(d));
        }

        /** Neither below the lowest cell of the stone nor above the highest one. */
        private boolean isWithin(int d) {
            return weightAt(d) > 0 && weightAt(d - 1) < piece.weight;
        }

        /** Of a stone of which something is left. */
        int bestDepth() {
            int best = 0;
            int bestWorth = 0;
            for (int d = -MOST_HEIGHT; d <= MOST_HEIGHT; d++) {
                if (isWithin(d)) {
                    int worth = worthAt(d);
                    if (worth >= bestWorth) {
                        best = d;
                        bestWorth = worth;
                    }
                }
            }
            return best;
        }

        /** Of a flaw that is in the stone; what as rid tells it. */
        int leastLoss(Stone newPiece, Flaw flaw, int what) {
            int number = NO_ANSWER;
            int depth = NO_DEPTH;
            int loss = MOST_CELLS + 1;
            for (int n = 0; n < 27; n++) {
                int p = n / 9 - 1;
                int q = n / 3 % 3 - 1;
                int r = n % 3 - 1;
                if (p != 0 || q != 0 || r != 0) {
                    level(newPiece, p, q, r);
                    int under = lowestOf(flaw) - 1;
                    if (lossAt(under) < loss) {
                        number = n;
                        depth = under;
                        loss = lossAt(under);
                    }
                }
            }
            switch (what) {
                case 0:
                    return number;
                case 1:
                    return depth;
                default:
                    return loss;
            }
        }

        private int lowestOf(Flaw flaw) {
            int found = MOST_HEIGHT;
            for (int k = 0; k < flaw.cellCount; k++) {
                int i = flaw.cells[k];
                if (rough.owner[i] == piece.number) {
                    found = Math.min(found, heights[i]);
                }
            }
            return found;
        }
    }
}
