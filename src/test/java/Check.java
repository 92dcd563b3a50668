import java.math.BigInteger;

/** Counts and prints the answers that are not the due ones. */
final class Check {
    interface Call {
        Object run();
    }

    private static int wrong = 0;
    private static int asked = 0;

    private Check() {
    }

    static void same(String label, Object want, Object got) {
        asked++;
        if (!want.equals(got)) {
            wrong++;
            System.out.println(label + " answered " + got + ", due is " + want);
        }
    }

    /** What the call answers, or the exact name of what it throws. */
    static String answer(Call call) {
        try {
            return String.valueOf(call.run());
        } catch (RuntimeException e) {
            return "throws." + e.getClass().getSimpleName();
        }
    }

    static void bounds(GemCut x, String label, Call call) {
        refused(x, label, "throws.IndexOutOfBoundsException", call);
    }

    static void argument(GemCut x, String label, Call call) {
        refused(x, label, "throws.IllegalArgumentException", call);
    }

    static void state(GemCut x, String label, Call call) {
        refused(x, label, "throws.IllegalStateException", call);
    }

    private static void refused(GemCut x, String label, String want, Call call) {
        long before = x.digest();
        same(label, want, answer(call));
        same(label + " and then digest()", before, x.digest());
    }

    /** The checksum of these numbers without a bound, of which the lowest 64 bits are told; it must be beyond them. */
    static long digestOf(int... told) {
        BigInteger d = BigInteger.valueOf(577);
        for (int x : told) {
            d = d.multiply(BigInteger.valueOf(31)).add(BigInteger.valueOf(x));
        }
        same("the checksum is beyond 64 bits", true, d.bitLength() > 64);
        return d.longValue();
    }

    static void end() {
        System.out.println(asked + " answers, " + wrong + " of them wrong");
        if (wrong != 0) {
            System.exit(1);
        }
    }
}
