/** Benches that are made alike; one of them gets a call more, and the other one shows what had to follow without it. */
final class Twins {
    interface Step {
        Object on(GemCut x);
    }

    interface StepAt {
        Object on(GemCut x, int n);
    }

    static final String BOUNDS = "throws.IndexOutOfBoundsException";
    static final String ARGUMENT = "throws.IllegalArgumentException";
    static final String STATE = "throws.IllegalStateException";

    /** What a refused call could have left behind comes to light here, also what digest() doesn't tell. */
    private static final Step[] AFTERWARDS = {
        GemCut::digest,
        GemCut::kept,
        x -> x.would(0, 1, 1, 1, 2, 0),
        x -> x.would(0, 1, 1, 1, 2, 1),
        x -> x.would(0, 1, 0, 0, 0, 2),
        x -> x.would(0, 1, 0, 0, 0, 3),
        x -> x.depth(0, 1, 2, 3),
        x -> x.rid(0, 0, 0),
        x -> x.rid(0, 0, 1),
        x -> x.rid(0, 0, 2),
        x -> x.angle(0, 0, 1),
        x -> x.flaw(0, 0, 0, 1, 3),
        x -> x.cut(0, 1, 0, 0, 1),
        x -> x.polish(0, 1),
        x -> x.saw(0, 0, 1, 0, 0),
        x -> x.saw(0, 0, 0, 1, 0),
        x -> x.cut(1, 0, 0, 1, 0),
        x -> x.polish(1, 0),
        GemCut::digest,
        GemCut::dress,
        x -> x.cut(0, 0, 0, 1, -1),
        GemCut::digest,
    };

    private Twins() {
    }

    static GemCut bench(Step setup) {
        GemCut x = new GemCut();
        setup.on(x);
        return x;
    }

    /** The call is answered so; what it changes is not looked at. */
    static void answers(String label, Object due, Step setup, Step call) {
        GemCut asked = bench(setup);
        Check.same(label, String.valueOf(due), Check.answer(() -> call.on(asked)));
    }

    /** The call is answered so (with an exception's name: it throws that one), and changes nothing. */
    static void unchanged(String label, Object due, Step setup, Step call) {
        GemCut asked = bench(setup);
        GemCut other = bench(setup);
        Check.same(label, String.valueOf(due), Check.answer(() -> call.on(asked)));
        for (int k = 0; k < AFTERWARDS.length; k++) {
            Step next = AFTERWARDS[k];
            Check.same(label + ", and then the step " + k + " afterwards",
                    Check.answer(() -> next.on(other)), Check.answer(() -> next.on(asked)));
        }
    }

    /** Just beyond each end, and far off, the call throws, and changes nothing. */
    static void refusedOutside(String label, String exception, Step setup, int low, int high, StepAt call) {
        int[] outside = {low - 1, high + 1, Integer.MIN_VALUE, Integer.MAX_VALUE};
        for (int n : outside) {
            unchanged(label + " is " + n, exception, setup, x -> call.on(x, n));
        }
    }

    /** From end to end the call doesn't throw. */
    static void takenWithin(String label, Step setup, int low, int high, StepAt call) {
        for (int n = low; n <= high; n++) {
            int at = n;
            GemCut asked = bench(setup);
            boolean throwing = Check.answer(() -> call.on(asked, at)).startsWith("throws.");
            Check.same(label + " is " + n + ": throws", false, throwing);
        }
    }
}
