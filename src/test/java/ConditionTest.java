/** Promise 7: skips and jumps by the conditions of a number. */
public final class ConditionTest {
    private static final long OLD = 0111111222222L;

    public static void main(String[] args) {
        for (int c = 0; c < 8; c++) {
            for (long word : Bench.EDGES) {
                jump(c, word);
                skip(c, word);
                for (int by : new int[] {1, -1}) {
                    countAndJump(c, word, by);
                    countAndSkip(c, word, by);
                }
                for (long other : Bench.EDGES) {
                    compare(c, word, other);
                }
                for (int e : new int[] {0, 1, 3, 0377777, 0400000, 0777777}) {
                    compareWithE(c, word, e);
                }
            }
            outside(c);
        }
        sameAccumulator();
        Check.end();
    }

    private static boolean holds(int c, long number) {
        boolean below = (c & 1) != 0 && number < 0;
        boolean zero = (c & 2) != 0 && number == 0;
        switch (c) {
            case 4:
                return true;
            case 5:
                return !(number < 0);
            case 6:
                return !(number == 0);
            case 7:
                return !(number < 0) && !(number == 0);
            default:
                return below || zero;
        }
    }

    private static void pc(String what, Bench b, boolean so) {
        Check.same("PC of " + what, b.pc(), so ? Bench.PC + 2 : Bench.PC + 1);
    }

    private static void compareWithE(int c, long word, int e) {
        Bench b = new Bench().put(1, word).go(Bench.code(0300 + c, 1, e));
        pc("30" + c + " of " + word + ", " + e, b, holds(c, Bench.number(word) - e));
        Check.same("AC of 30" + c, b.at(1), word);
        Check.same("OVERFLOW of 30" + c, b.overflow(), false);
        Check.same("trap of 30" + c, b.trap(), 0);
    }

    private static void compare(int c, long word, long other) {
        Bench b = new Bench().put(1, word).put(Bench.E, other).go(Bench.code(0310 + c, 1, Bench.E));
        pc("31" + c + " of " + word + ", " + other, b, holds(c, Bench.number(word) - Bench.number(other)));
        Check.same("AC of 31" + c, b.at(1), word);
        Check.same("OVERFLOW of 31" + c, b.overflow(), false);
    }

    private static void jump(int c, long word) {
        Bench b = new Bench().put(1, word).go(Bench.code(0320 + c, 1, 0765432));
        boolean so = holds(c, Bench.number(word));
        Check.same("PC of 32" + c + " of " + word, b.pc(), so ? 0765432 : Bench.PC + 1);
        Check.same("AC of 32" + c, b.at(1), word);
    }

    private static void skip(int c, long word) {
        for (int ac : new int[] {0, 1}) {
            Bench b = new Bench().put(ac, OLD).put(Bench.E, word).go(Bench.code(0330 + c, ac, Bench.E));
            pc("33" + c + " of " + word, b, holds(c, Bench.number(word)));
            Check.same("AC " + ac + " of 33" + c, b.at(ac), ac == 0 ? OLD : word);
            Check.same("(E) of 33" + c, b.at(Bench.E), word);
        }
    }

    private static long counted(long word, int by) {
        return (word + by) & Bench.WORD;
    }

    private static boolean wraps(long word, int by) {
        return word == (by > 0 ? Bench.MOST : Bench.LEAST);
    }

    private static void countAndJump(int c, long word, int by) {
        int op = (by > 0 ? 0340 : 0360) + c;
        for (int ac : new int[] {0, 1}) {
            Bench b = new Bench().put(ac, word).go(Bench.code(op, ac, 0765432));
            boolean so = holds(c, Bench.number(counted(word, by)));
            Check.same("PC of " + op + " of " + word, b.pc(), so ? 0765432 : Bench.PC + 1);
            Check.same("AC of " + op + " of " + word, b.at(ac), counted(word, by));
            Check.same("OVERFLOW of " + op + " of " + word, b.overflow(), wraps(word, by));
        }
    }

    private static void countAndSkip(int c, long word, int by) {
        int op = (by > 0 ? 0350 : 0370) + c;
        for (int ac : new int[] {0, 1}) {
            Bench b = new Bench().put(ac, OLD).put(Bench.E, word).go(Bench.code(op, ac, Bench.E));
            pc(op + " of " + word, b, holds(c, Bench.number(counted(word, by))));
            Check.same("(E) of " + op + " of " + word, b.at(Bench.E), counted(word, by));
            Check.same("AC " + ac + " of " + op, b.at(ac), ac == 0 ? OLD : counted(word, by));
            Check.same("OVERFLOW of " + op + " of " + word, b.overflow(), wraps(word, by));
        }
    }

    private static void outside(int c) {
        for (int op : new int[] {0310, 0330, 0350, 0370}) {
            Bench b = new Bench().put(1, OLD).go(Bench.code(op + c, 1, Bench.OUTSIDE));
            Check.same("trap of " + (op + c), b.trap(), 1);
            Check.same("AC of " + (op + c), b.at(1), OLD);
        }
        for (int op : new int[] {0300, 0320, 0340, 0360}) {
            Check.same("no trap of " + (op + c), new Bench().go(Bench.code(op + c, 1, Bench.OUTSIDE)).trap(), 0);
        }
    }

    private static void sameAccumulator() {
        Bench b = new Bench().put(0, 5).go(Bench.code(0350, 0, 0));
        Check.same("35 of accumulator 0", b.at(0), 6);
        b = new Bench().put(3, 0777777777777L).go(Bench.code(0352, 3, 3));
        Check.same("35 of AC itself", b.at(3), 0);
        pc("35 of AC itself", b, true);
    }
}
