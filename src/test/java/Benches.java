/** Benches at the bounds that the document names, for the tests to begin from. */
final class Benches {
    private Benches() {
    }

    static Object untouched(GemCut x) {
        return x;
    }

    /**
     * A rough of 4 * 3 * 5 with 2 flaws. Stone 0 has z 0 to 2 (36 cells) and keeps two planes: the first is no
     * facet, the second is polished. Stone 1 (18 cells) keeps none. Nothing is left of stone 2, which keeps one.
     */
    static Object worked(GemCut x) {
        x.take(4, 3, 5);
        x.flaw(1, 1, 1, 1, 4);
        x.flaw(3, 2, 4, 2, 9);
        x.cut(0, 1, 1, 1, 8);
        x.cut(0, -1, 0, 0, 0);
        x.saw(0, 0, 0, 1, 2);
        x.saw(1, 1, 0, 0, 2);
        x.cut(2, 1, 0, 0, -1);
        return x.polish(0, 1);
    }

    /** Worked, and stone 0 keeps a third plane, a facet of 12 cells that is not polished. */
    static Object faceted(GemCut x) {
        worked(x);
        return x.cut(0, 0, 0, 1, 2);
    }

    /** Worked, with n flaws, 2 to 10. */
    static Object flawed(GemCut x, int n) {
        worked(x);
        for (int f = 2; f < n; f++) {
            x.flaw(f % 4, f % 3, f % 5, f % 4, f - 1);
        }
        return x;
    }

    /** A bar of 8 * 2 * 2 sawn into n stones, 1 to 8; stone 0 is longer than one slice, but for 8. */
    static Object sawn(GemCut x, int n) {
        x.take(8, 2, 2);
        for (int s = 1; s < n; s++) {
            x.saw(0, 1, 0, 0, 7 - s);
        }
        return x;
    }

    /** A rough of 2 * 2 * 2 that keeps n planes, 0 to 16, each of them a facet of 4 cells. */
    static Object planed(GemCut x, int n) {
        x.take(2, 2, 2);
        for (int k = 0; k < n; k++) {
            x.cut(0, 1, 0, 0, 1);
        }
        return x;
    }

    /** Nothing is left of the rough, which was of 2 * 1 * 1, and keeps n planes, 1 to 16. */
    static Object emptied(GemCut x, int n) {
        x.take(2, 1, 1);
        x.flaw(1, 0, 0, 0, 3);
        for (int k = 0; k < n; k++) {
            x.cut(0, 1, 0, 0, -1);
        }
        return x;
    }

    /**
     * A rough of 10 * 10 * 10 of which nothing is cut off; so many facets were polished that so many turns are
     * left: a side takes 105, an edge 15, a corner 6, three cells at a corner 8. The last plane is a corner that
     * is not polished.
     */
    static Object turnsLeft(GemCut x, int left) {
        x.take(10, 10, 10);
        switch (left) {
            case 6:
                polish(x, 3, 2, 3, 3);
                break;
            case 5:
                polish(x, 3, 1, 4, 2);
                break;
            case 3:
                polish(x, 3, 2, 4, 1);
                break;
            case 2:
                polish(x, 3, 1, 5, 0);
                break;
            default:
                polish(x, 3, 2, 3, 4);
                break;
        }
        Check.same("the bench with so many turns left", left, x.count(5));
        return x.cut(0, 1, 1, 1, 27);
    }

    private static void polish(GemCut x, int sides, int threes, int edges, int corners) {
        for (int k = 0; k < sides; k++) {
            x.cut(0, 0, 0, 1, 9);
        }
        for (int k = 0; k < threes; k++) {
            x.cut(0, 1, 1, 2, 36);
        }
        for (int k = 0; k < edges; k++) {
            x.cut(0, 0, 1, 1, 18);
        }
        for (int k = 0; k < corners; k++) {
            x.cut(0, 1, 1, 1, 27);
        }
        for (int k = 0; k < sides + threes + edges + corners; k++) {
            x.polish(0, k);
        }
    }
}
