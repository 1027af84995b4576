/** Promise 7: the sixteen functions of logic, in all modes. */
public final class LogicTest {
    public static void main(String[] args) {
        for (int f = 0; f < 16; f++) {
            for (int mode = 0; mode < 4; mode++) {
                for (int ac : new int[] {0, 3}) {
                    for (long s : new long[] {0, Bench.WORD, 0252525252525L, 0123456765432L}) {
                        one(f, mode, ac, 0314631463146L, s);
                        one(f, mode, ac, 0400000000001L, s);
                    }
                }
            }
            outside(f);
        }
        byHand();
        Check.end();
    }

    private static long due(int f, long a, long s) {
        long result = 0;
        for (int bit = 0; bit < 36; bit++) {
            int pair = (int) (a >> bit & 1) * 2 + (int) (s >> bit & 1);
            result |= (long) (f >> (3 - pair) & 1) << bit;
        }
        return result;
    }

    private static void one(int f, int mode, int ac, long a, long word) {
        long s = mode == 1 ? word & 0777777 : word;
        Bench b = new Bench().put(ac, a).put(Bench.E, word);
        b.go(Bench.code(0400 + 4 * f + mode, ac, mode == 1 ? s : Bench.E));
        String what = "logic " + f + " mode " + mode + " of " + a + ", " + s;
        Check.same(what + " to AC", b.at(ac), mode == 2 ? a : due(f, a, s));
        Check.same(what + " to E", b.at(Bench.E), mode >= 2 ? due(f, a, s) : word);
        Check.same(what + " OVERFLOW", b.overflow(), false);
    }

    private static void outside(int f) {
        for (int mode : new int[] {0, 2, 3}) {
            Bench b = new Bench().put(1, 5).go(Bench.code(0400 + 4 * f + mode, 1, Bench.OUTSIDE));
            Check.same("trap of logic " + f, b.trap(), 1);
            Check.same("AC of trapped logic " + f, b.at(1), 5);
        }
    }

    /** Octal OPs with answers worked out by hand from a = 1010 and s = 0110. */
    private static void byHand() {
        Check.same("0400", result(0400), 0);
        Check.same("0404 both", result(0404), 02);
        Check.same("0410 a and not s", result(0410), 010);
        Check.same("0414 a", result(0414), 012);
        Check.same("0420 s and not a", result(0420), 04);
        Check.same("0424 s", result(0424), 06);
        Check.same("0430 one of both", result(0430), 014);
        Check.same("0434 a or s", result(0434), 016);
        Check.same("0440 neither", result(0440), 0777777777761L);
        Check.same("0474 all ones", result(0474), Bench.WORD);
    }

    private static long result(int op) {
        return new Bench().put(1, 012).put(Bench.E, 06).go(Bench.code(op, 1, Bench.E)).at(1);
    }
}
