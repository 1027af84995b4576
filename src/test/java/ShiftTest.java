/** Promise 7: ASH, ROT and LSH, against shifts one bit at a time. */
public final class ShiftTest {
    private static final int ASH = 0240;
    private static final int ROT = 0241;
    private static final int LSH = 0242;

    private static long result;
    private static boolean lost;

    public static void main(String[] args) {
        for (long word : Bench.EDGES) {
            for (int by = -256; by <= 255; by++) {
                for (int op = ASH; op <= LSH; op++) {
                    one(op, word, by);
                }
            }
        }
        otherBitsOfEDoNotCount();
        theStoreIsNotTouched();
        byHand();
        Check.end();
    }

    private static void oneBitLeft(int op) {
        long top = result >> 35 & 1;
        if (op == ASH) {
            lost |= (result >> 34 & 1) != top;
            result = top << 35 | (result << 1 & Bench.MOST);
        } else {
            result = (result << 1 & Bench.WORD) | (op == ROT ? top : 0);
        }
    }

    private static void oneBitRight(int op) {
        long in = op == ASH ? result >> 35 & 1 : op == ROT ? result & 1 : 0;
        result = result >> 1 | in << 35;
    }

    private static void one(int op, long word, int by) {
        result = word;
        lost = false;
        for (int i = 0; i < by; i++) {
            oneBitLeft(op);
        }
        for (int i = 0; i > by; i--) {
            oneBitRight(op);
        }
        long e = by < 0 ? 0400000 | by & 0377 : by;
        Bench b = new Bench().put(1, word).go(Bench.code(op, 1, e));
        String what = "OP 0" + Integer.toOctalString(op) + " of " + word + " by " + by;
        Check.same(what, b.at(1), result);
        Check.same(what + " OVERFLOW", b.overflow(), lost);
    }

    private static void otherBitsOfEDoNotCount() {
        Check.same("LSH by 0377401", new Bench().put(1, 5).go(Bench.code(LSH, 1, 0377401)).at(1), 10);
        Check.same("LSH by 0777777", new Bench().put(1, 5).go(Bench.code(LSH, 1, 0777777)).at(1), 2);
        Check.same("LSH by 0400", new Bench().put(1, 5).go(Bench.code(LSH, 1, 0400)).at(1), 5);
        Check.same("LSH by 0400000", new Bench().put(1, Bench.WORD).go(Bench.code(LSH, 1, 0400000)).at(1), 0);
        Check.same("ROT by 0400000", new Bench().put(1, 5).go(Bench.code(ROT, 1, 0400000)).at(1), 0240000000000L);
    }

    private static void theStoreIsNotTouched() {
        Bench b = new Bench().put(1, 5).put(2, 7).put(3, 2).go(Bench.code(ASH, 1, 0, 3, 1));
        Check.same("by X", b.at(1), 40);
        Check.same("the next accumulator", b.at(2), 7);
        Check.same("E outside is no trap", new Bench().go(Bench.code(ASH, 1, 0777776)).trap(), 0);
    }

    private static void byHand() {
        check(ASH, Bench.WORD, 35, Bench.LEAST, false);
        check(ASH, Bench.WORD, 36, Bench.LEAST, true);
        check(ASH, 1, 34, 0200000000000L, false);
        check(ASH, 1, 35, 0, true);
        check(ASH, 0, 255, 0, false);
        check(ASH, 0600000000000L, 1, Bench.LEAST, false);
        check(ASH, 0500000000000L, 1, 0600000000000L, true);
        check(LSH, Bench.WORD, 35, Bench.LEAST, false);
        check(LSH, Bench.WORD, 36, 0, false);
        check(ROT, Bench.LEAST, 1, 1, false);
    }

    private static void check(int op, long word, int by, long due, boolean overflow) {
        Bench b = new Bench().put(1, word).go(Bench.code(op, 1, by));
        Check.same("OP " + op + " of " + word + " by " + by, b.at(1), due);
        Check.same("OVERFLOW of it", b.overflow(), overflow);
    }
}
