/** Promise 7: the tests of bits. */
public final class BitTestTest {
    private static final long[] OWN = {0, Bench.WORD, 0123456654321L, 0700000000007L};
    private static final long[] MASKS = {0, Bench.WORD, 0654321123456L, 0000007700000L, 0400000000001L};

    public static void main(String[] args) {
        for (int xx = 0; xx < 64; xx++) {
            for (long own : OWN) {
                for (long mask : MASKS) {
                    one(xx, 0, own, mask);
                    one(xx, 017, own, mask);
                }
            }
            outside(xx);
        }
        byHand();
        Check.end();
    }

    private static long mask(int xx, long word) {
        boolean swapped = xx % 2 == 1;
        if (xx / 8 % 2 == 0) {
            return swapped ? Bench.word(word, 0) : word & 0777777;
        }
        return swapped ? Bench.word(word, word >> 18) : word;
    }

    private static void one(int xx, int ac, long own, long word) {
        boolean isImmediate = xx / 8 % 2 == 0;
        Bench b = new Bench().put(ac, own).put(Bench.E, word);
        b.go(Bench.code(0600 + xx, ac, isImmediate ? word : Bench.E));
        long due = 0;
        boolean allZero = true;
        for (int bit = 0; bit < 36; bit++) {
            long is = own >> bit & 1;
            if ((mask(xx, word) >> bit & 1) == 1) {
                allZero &= is == 0;
                is = new long[] {is, 0, 1 - is, 1}[xx / 16];
            }
            due |= is << bit;
        }
        boolean skips = new boolean[] {false, allZero, true, !allZero}[xx / 2 % 4];
        String what = "OP 0" + Integer.toOctalString(0600 + xx) + " of " + own + ", " + word;
        Check.same(what + " AC", b.at(ac), due);
        Check.same(what + " PC", b.pc(), skips ? Bench.PC + 2 : Bench.PC + 1);
        Check.same(what + " (E)", b.at(Bench.E), word);
        Check.same(what + " trap", b.trap(), 0);
    }

    private static void outside(int xx) {
        Bench b = new Bench().put(1, Bench.WORD).go(Bench.code(0600 + xx, 1, Bench.OUTSIDE));
        Check.same("trap of OP 6 " + xx, b.trap(), xx / 8 % 2);
        if (xx / 8 % 2 == 1) {
            Check.same("AC of trapped OP 6 " + xx, b.at(1), Bench.WORD);
        }
    }

    /** Octal OPs with answers worked out by hand. */
    private static void byHand() {
        check(0602, 0700, 0070, 0700, true);
        check(0606, 0700, 0070, 0700, false);
        check(0606, 0700, 0170, 0700, true);
        check(0620, 0700, 0170, 0600, false);
        check(0641, 0700, 0170, 0170000700, false);
        check(0664, 0700, 0070, 0770, true);
    }

    private static void check(int op, long own, int e, long due, boolean skips) {
        Bench b = new Bench().put(1, own).go(Bench.code(op, 1, e));
        Check.same("AC of OP " + op, b.at(1), due);
        Check.same("PC of OP " + op, b.pc(), skips ? Bench.PC + 2 : Bench.PC + 1);
    }
}
