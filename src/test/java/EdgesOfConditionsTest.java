/** The boundary cases of conditions, tests of bits and shifts: a method for each sentence, in the document's order. */
public final class EdgesOfConditionsTest {
    private static final long MOST = Bench.MOST;
    private static final long LEAST = Bench.LEAST;
    private static final long MINUS_ONE = Bench.WORD;
    private static final long OLD = 0111111222222L;
    private static final int ASH = 0240;
    private static final int ROT = 0241;
    private static final int LSH = 0242;

    /** For each condition: whether it holds of a number below 0, of 0, above 0. */
    private static final boolean[][] HOLDS = {
        {false, false, false}, {true, false, false}, {false, true, false}, {true, true, false},
        {true, true, true}, {false, true, true}, {true, false, true}, {false, false, true}};

    public static void main(String[] args) {
        conditions();
        lessE();
        lessWord();
        lessIsNotWrapped();
        jumps();
        skips();
        skipsToAc();
        growAndJump();
        fallAndJump();
        growAndSkip();
        fallAndSkip();
        countsToAc();
        masksOfE();
        masksOfWords();
        testSkips();
        emptyMasks();
        testChanges();
        shiftsAreNumbers();
        ashSign();
        ashLeft();
        ashLost();
        ashRight();
        lsh();
        rot();
        Check.end();
    }

    private static boolean holds(int c, int sign) {
        return HOLDS[c][sign + 1];
    }

    private static void skipped(String what, Bench b, boolean due) {
        Check.same(what + ": PC", b.pc(), due ? Bench.PC + 2 : Bench.PC + 1);
    }

    private static void jumped(String what, Bench b, boolean due) {
        Check.same(what + ": PC", b.pc(), due ? 0765432 : Bench.PC + 1);
    }

    private static void conditions() {
        Check.sentence("CONDITIONS c of a number: 0 never, 1 below 0, 2 it is 0, 3 not above 0, 4 always, 5 .., 6 .., 7 ..");
        for (int c = 0; c < 8; c++) {
            long[][] cases = {{LEAST, -1}, {MINUS_ONE - 1, -1}, {MINUS_ONE, -1}, {0, 0}, {1, 1}, {2, 1}, {MOST, 1}};
            for (long[] n : cases) {
                Bench b = new Bench().put(1, n[0]).go(Bench.code(0320 + c, 1, 0765432));
                jumped("32" + c + " of " + n[0], b, holds(c, (int) n[1]));
            }
        }
    }

    private static void lessE() {
        Check.sentence("30c: skip (PC 1 more) if C(AC) less E (a number from 0 on) is so");
        long[][] cases = {{MINUS_ONE, 0, -1}, {0, 0, 0}, {1, 0, 1}, {0777776, 0777777, -1}, {0777777, 0777777, 0},
            {01000000, 0777777, 1}, {0377777, 0400000, -1}, {0400000, 0400000, 0}, {0400001, 0400000, 1},
            {MINUS_ONE, 0777777, -1}, {Bench.word(0777777, 0400000), 0400000, -1}};
        for (int c = 0; c < 8; c++) {
            for (long[] n : cases) {
                Bench b = new Bench().put(1, n[0]).go(Bench.code(0300 + c, 1, n[1]));
                skipped("30" + c + " of " + n[0] + " less " + n[1], b, holds(c, (int) n[2]));
                Check.same("30" + c + ": AC", b.at(1), n[0]);
            }
            Check.same("no place is looked at", new Bench().go(Bench.code(0300 + c, 1, 02000)).trap(), 0);
        }
    }

    private static void lessWord() {
        Check.sentence("31c: skip if C(AC) less (E) is so");
        long[][] cases = {{4, 5, -1}, {5, 5, 0}, {6, 5, 1}, {MINUS_ONE, 0, -1}, {0, MINUS_ONE, 1},
            {MINUS_ONE, MINUS_ONE, 0}, {MINUS_ONE - 1, MINUS_ONE, -1}, {LEAST, LEAST, 0}, {MOST, MOST, 0}};
        for (int c = 0; c < 8; c++) {
            for (long[] n : cases) {
                Bench b = new Bench().put(1, n[0]).put(0300, n[1]).go(Bench.code(0310 + c, 1, 0300));
                skipped("31" + c + " of " + n[0] + " less " + n[1], b, holds(c, (int) n[2]));
                Check.same("31" + c + ": AC", b.at(1), n[0]);
                Check.same("31" + c + ": (E)", b.at(0300), n[1]);
            }
            Check.same("the last E inside", new Bench().go(Bench.code(0310 + c, 1, 01777)).trap(), 0);
            Check.same("the first E beyond", new Bench().go(Bench.code(0310 + c, 1, 02000)).trap(), 1);
        }
    }

    private static void lessIsNotWrapped() {
        Check.sentence("(not wrapped)");
        long[][] cases = {{LEAST, 1, -1}, {LEAST, MOST, -1}, {MOST, MINUS_ONE, 1}, {MOST, LEAST, 1}, {0, LEAST, 1},
            {MINUS_ONE, MOST, -1}, {MINUS_ONE - 1, MOST, -1}};
        for (int c = 0; c < 8; c++) {
            for (long[] n : cases) {
                Bench b = new Bench().put(1, n[0]).put(0300, n[1]).go(Bench.code(0310 + c, 1, 0300));
                skipped("31" + c + " of " + n[0] + " less " + n[1], b, holds(c, (int) n[2]));
                Check.same("31" + c + ": OVERFLOW", b.overflow(), false);
            }
            Bench b = new Bench().put(1, LEAST).go(Bench.code(0300 + c, 1, 0777777));
            skipped("30" + c + " of the least number", b, holds(c, -1));
            Check.same("30" + c + ": OVERFLOW", b.overflow(), false);
        }
    }

    private static void jumps() {
        Check.sentence("32c: PC = E if C(AC) is so");
        Check.same("E 0777777", new Bench().go(Bench.code(0322, 1, 0777777)).pc(), 0777777);
        Check.same("E 0", new Bench().go(Bench.code(0322, 1, 0)).pc(), 0);
        Check.same("not so", new Bench().go(Bench.code(0326, 1, 0777777)).pc(), Bench.PC + 1);
        Check.same("AC 0 is one like the others", new Bench().put(0, 1).go(Bench.code(0326, 0, 0300)).pc(), 0300);
        Check.same("no place is looked at", new Bench().go(Bench.code(0324, 1, 02000)).trap(), 0);
    }

    private static void skips() {
        Check.sentence("33c: skip if (E) is so");
        long[][] cases = {{LEAST, -1}, {MINUS_ONE, -1}, {0, 0}, {1, 1}, {MOST, 1}};
        for (int c = 0; c < 8; c++) {
            for (long[] n : cases) {
                Bench b = new Bench().put(1, 1 - n[1]).put(0300, n[0]).go(Bench.code(0330 + c, 1, 0300));
                skipped("33" + c + " of " + n[0], b, holds(c, (int) n[1]));
                Check.same("33" + c + ": (E)", b.at(0300), n[0]);
            }
            Check.same("the last E inside", new Bench().go(Bench.code(0330 + c, 1, 01777)).trap(), 0);
            Check.same("the first E beyond", new Bench().go(Bench.code(0330 + c, 1, 02000)).trap(), 1);
        }
    }

    private static void skipsToAc() {
        Check.sentence("it also goes to AC, if that is not 0");
        for (int c = 0; c < 8; c++) {
            for (int ac : new int[] {0, 1, 017}) {
                Bench b = new Bench().put(ac, OLD).put(0300, 5).go(Bench.code(0330 + c, ac, 0300));
                Check.same("AC " + ac + " of 33" + c, b.at(ac), ac == 0 ? OLD : 5);
            }
        }
    }

    private static void counted(int op, long before, long after, int sign, boolean overflow) {
        for (int c = 0; c < 8; c++) {
            String what = "OP 0" + Integer.toOctalString(op + c) + " of " + before;
            boolean jumps = op == 0340 || op == 0360;
            int place = jumps ? 1 : 0300;
            Bench b = new Bench().put(place, before).go(Bench.code(op + c, 1, jumps ? 0765432 : 0300));
            Check.same(what, b.at(place), after);
            Check.same(what + ": OVERFLOW", b.overflow(), overflow);
            if (jumps) {
                jumped(what, b, holds(c, sign));
            } else {
                skipped(what, b, holds(c, sign));
                Check.same(what + ": AC", b.at(1), after);
            }
        }
    }

    private static void grow(int op) {
        counted(op, MOST - 1, MOST, 1, false);
        counted(op, MOST, LEAST, -1, true);
        counted(op, LEAST, LEAST + 1, -1, false);
        counted(op, MINUS_ONE - 1, MINUS_ONE, -1, false);
        counted(op, MINUS_ONE, 0, 0, false);
        counted(op, 0, 1, 1, false);
    }

    private static void fall(int op) {
        counted(op, LEAST + 1, LEAST, -1, false);
        counted(op, LEAST, MOST, 1, true);
        counted(op, MOST, MOST - 1, 1, false);
        counted(op, 2, 1, 1, false);
        counted(op, 1, 0, 0, false);
        counted(op, 0, MINUS_ONE, -1, false);
    }

    private static void growAndJump() {
        Check.sentence("34c: C(AC) grows by 1, wrapping, OVERFLOW if it does; then as 32c");
        grow(0340);
        Check.same("AC 0 grows like the others", new Bench().put(0, 5).go(Bench.code(0340, 0, 0300)).at(0), 6);
    }

    private static void fallAndJump() {
        Check.sentence("36c: C(AC) falls by 1, wrapping, OVERFLOW if it does; then as 32c");
        fall(0360);
        Check.same("AC 0 falls like the others", new Bench().put(0, 5).go(Bench.code(0360, 0, 0300)).at(0), 4);
    }

    private static void growAndSkip() {
        Check.sentence("35c: the same with (E), which is stored; then skip if so");
        grow(0350);
        Check.same("the last E inside", new Bench().go(Bench.code(0350, 0, 01777)).at(01777), 1);
        Check.same("the first E beyond", new Bench().go(Bench.code(0350, 0, 02000)).trap(), 1);
    }

    private static void fallAndSkip() {
        Check.sentence("37c: the same with (E), which is stored; then skip if so");
        fall(0370);
        Check.same("the last E inside", new Bench().go(Bench.code(0370, 0, 01777)).at(01777), MINUS_ONE);
        Check.same("the first E beyond", new Bench().go(Bench.code(0370, 0, 02000)).trap(), 1);
    }

    private static void countsToAc() {
        Check.sentence("goes to AC, if that is not 0");
        for (int op : new int[] {0350, 0357, 0370, 0377}) {
            for (int ac : new int[] {0, 1, 017}) {
                Bench b = new Bench().put(ac, OLD).put(0300, 5).go(Bench.code(op, ac, 0300));
                long due = op < 0360 ? 6 : 4;
                Check.same("(E) of OP " + op, b.at(0300), due);
                Check.same("AC " + ac + " of OP " + op, b.at(ac), ac == 0 ? OLD : due);
            }
        }
    }

    private static long tested(int op, long own, long word, int e) {
        return new Bench().put(1, own).put(0300, word).go(Bench.code(op, 1, e)).at(1);
    }

    private static void masksOfE() {
        Check.sentence("the MASK: y 0: 0,,E (x 0) or E,,0 (1)");
        for (int e : new int[] {0, 1, 0377777, 0400000, 0777777}) {
            Check.same("660 with " + e, tested(0660, 0, 0, e), e);
            Check.same("661 with " + e, tested(0661, 0, 0, e), (long) e << 18);
        }
        Check.same("no place is looked at", new Bench().go(Bench.code(0660, 1, 02000)).trap(), 0);
    }

    private static void masksOfWords() {
        Check.sentence("y 1: (E), or with halves changed about (1)");
        for (long word : new long[] {0, 1, LEAST, MOST, Bench.WORD, Bench.word(0400000, 1)}) {
            Check.same("670 with " + word, tested(0670, 0, word, 0300), word);
            Check.same("671 with " + word, tested(0671, 0, word, 0300), Bench.word(word, word >> 18));
        }
        Check.same("the last E inside", new Bench().go(Bench.code(0610, 1, 01777)).trap(), 0);
        Check.same("the first E beyond", new Bench().go(Bench.code(0610, 1, 02000)).trap(), 1);
        Check.same("AC itself", tested(0630, 0123, 0, 1), 0);
    }

    private static void testSkips() {
        Check.sentence("k 0: no skip, 1 if all masked bits of C(AC) are 0, 2 always, 3 if not all are");
        long[][] cases = {{0, 7, 1}, {1, 7, 0}, {4, 7, 0}, {7, 7, 0}, {010, 7, 1}, {MINUS_ONE - 7, 7, 1},
            {MINUS_ONE - 6, 7, 0}, {LEAST, 0777777, 1}, {0400000, 0777777, 0}, {0400000, 0377777, 1}};
        for (int z = 0; z < 4; z++) {
            for (long[] n : cases) {
                boolean allZero = n[2] == 1;
                boolean[] due = {false, allZero, true, !allZero};
                for (int k = 0; k < 4; k++) {
                    int op = 0600 + 16 * z + 2 * k;
                    Bench b = new Bench().put(1, n[0]).go(Bench.code(op, 1, n[1]));
                    skipped("OP 0" + Integer.toOctalString(op) + " of " + n[0] + " with " + n[1], b, due[k]);
                }
            }
        }
    }

    private static void emptyMasks() {
        Check.sentence("1 if all masked bits of C(AC) are 0, 3 if not all are: with no bit masked, all are");
        for (int z = 0; z < 4; z++) {
            for (int y = 0; y < 2; y++) {
                for (int k = 0; k < 4; k++) {
                    int op = 0600 + 16 * z + 8 * y + 2 * k;
                    Bench b = new Bench().put(1, MINUS_ONE).go(Bench.code(op, 1, y == 0 ? 0 : 0300));
                    skipped("OP 0" + Integer.toOctalString(op), b, k == 1 || k == 2);
                    Check.same("AC of OP 0" + Integer.toOctalString(op), b.at(1), MINUS_ONE);
                }
            }
        }
    }

    private static void testChanges() {
        Check.sentence("Then the masked bits become, by z: 0 as they are, 1 zeros, 2 the opposite, 3 ones.");
        long own = Bench.word(0252525, 0252525);
        long mask = Bench.word(0400000, 7);
        long[] due = {own, Bench.word(0252525, 0252520), Bench.word(0652525, 0252522), Bench.word(0652525, 0252527)};
        for (int z = 0; z < 4; z++) {
            for (int k = 0; k < 4; k++) {
                Check.same("z " + z + ", k " + k, tested(0610 + 16 * z + 2 * k, own, mask, 0300), due[z]);
            }
        }
        Bench b = new Bench().put(1, 7).go(Bench.code(0626, 1, 7));
        Check.same("zeros behind the test", b.at(1), 0);
        skipped("the test is of what was", b, true);
    }

    private static Bench shifted(int op, long word, long e) {
        return new Bench().put(1, word).put(2, OLD).go(Bench.code(op, 1, e));
    }

    private static void shift(int op, long word, int by, long due, boolean overflow) {
        Bench b = shifted(op, word, by & 0777777);
        String what = "OP 0" + Integer.toOctalString(op) + " of 0" + Long.toOctalString(word) + " by " + by;
        Check.same(what, b.at(1), due);
        Check.same(what + ": OVERFLOW", b.overflow(), overflow);
        Check.same(what + ": the next accumulator", b.at(2), OLD);
    }

    /** A rotation by n shows n modulo 36, so it tells 255 (3 more than 7 times 36) from -256 (4 less). */
    private static void shiftsAreNumbers() {
        Check.sentence("by the lowest 8 bits of E and its bit 0400000 as a sign, from -256 to 255");
        long[][] cases = {{0, 0}, {1, 1}, {0377, 3}, {0400, 0}, {0401, 1}, {0377400, 0}, {0377777, 3}, {0400000, -4 + 36},
            {0400001, -3 + 36}, {0400377, 35}, {0777777, 35}, {0777400, -4 + 36}, {0400376, 34}, {0400334, 0}};
        for (long[] c : cases) {
            Check.same("ROT by E 0" + Long.toOctalString(c[0]), shifted(ROT, 1, c[0]).at(1), 1L << c[1]);
        }
        Check.same("LSH by 0377", shifted(LSH, MINUS_ONE, 0377).at(1), 0);
        Check.same("LSH by 0400", shifted(LSH, 5, 0400).at(1), 5);
        Check.same("LSH by 0400000", shifted(LSH, MINUS_ONE, 0400000).at(1), 0);
        Check.same("LSH by 0777777", shifted(LSH, MINUS_ONE, 0777777).at(1), MOST);
        Check.same("LSH by 0400377", shifted(LSH, MINUS_ONE, 0400377).at(1), MOST);
        Check.same("no place is looked at", shifted(LSH, 1, 02000).trap(), 0);
    }

    private static void ashSign() {
        Check.sentence("left if above 0, right if below. ASH: the sign stays");
        shift(ASH, MINUS_ONE, 0, MINUS_ONE, false);
        shift(ASH, LEAST, 0, LEAST, false);
        shift(ASH, MOST, 0, MOST, false);
        shift(ASH, 1, 1, 2, false);
        shift(ASH, 2, -1, 1, false);
        shift(ASH, LEAST + 1, 1, LEAST + 2, true);
        shift(ASH, MOST, 1, MOST - 1, true);
        shift(ASH, LEAST, 1, LEAST, true);
        shift(ASH, 0600000000000L, 1, LEAST, false);
        shift(ASH, 0200000000000L, 1, 0, true);
    }

    private static void ashLeft() {
        Check.sentence("left: zeros come in");
        shift(ASH, 1, 34, 0200000000000L, false);
        shift(ASH, MINUS_ONE, 1, MINUS_ONE - 1, false);
        shift(ASH, MINUS_ONE, 34, 0600000000000L, false);
        shift(ASH, MINUS_ONE, 35, LEAST, false);
        shift(ASH, 0, 35, 0, false);
        shift(ASH, 0, 255, 0, false);
    }

    private static void ashLost() {
        Check.sentence("OVERFLOW if a bit is lost that is unlike the sign");
        shift(ASH, 0177777777777L, 1, 0377777777776L, false);
        shift(ASH, 0200000000000L, 1, 0, true);
        shift(ASH, 1, 34, 0200000000000L, false);
        shift(ASH, 1, 35, 0, true);
        shift(ASH, 1, 36, 0, true);
        shift(ASH, 1, 255, 0, true);
        shift(ASH, 0600000000000L, 1, LEAST, false);
        shift(ASH, 0577777777777L, 1, 0777777777776L, true);
        shift(ASH, 0600000000000L, 2, LEAST, true);
        shift(ASH, MINUS_ONE, 35, LEAST, false);
        shift(ASH, MINUS_ONE, 36, LEAST, true);
        shift(ASH, MINUS_ONE, 255, LEAST, true);
        shift(ASH, 0100000000001L, 2, 4, true);
        shift(ASH, 1, -1, 0, false);
        shift(ASH, MINUS_ONE - 1, -1, MINUS_ONE, false);
    }

    private static void ashRight() {
        Check.sentence("right: the sign comes in");
        shift(ASH, LEAST, -1, 0600000000000L, false);
        shift(ASH, LEAST, -34, MINUS_ONE - 1, false);
        shift(ASH, LEAST, -35, MINUS_ONE, false);
        shift(ASH, LEAST, -36, MINUS_ONE, false);
        shift(ASH, LEAST, -64, MINUS_ONE, false);
        shift(ASH, LEAST, -256, MINUS_ONE, false);
        shift(ASH, MOST, -1, 0177777777777L, false);
        shift(ASH, MOST, -34, 1, false);
        shift(ASH, MOST, -35, 0, false);
        shift(ASH, MOST, -36, 0, false);
        shift(ASH, MOST, -64, 0, false);
        shift(ASH, MOST, -256, 0, false);
    }

    private static void lsh() {
        Check.sentence("LSH: zeros come in.");
        shift(LSH, MINUS_ONE, 0, MINUS_ONE, false);
        shift(LSH, MINUS_ONE, 1, MINUS_ONE - 1, false);
        shift(LSH, 1, 35, LEAST, false);
        shift(LSH, MINUS_ONE, 35, LEAST, false);
        shift(LSH, MINUS_ONE, 36, 0, false);
        shift(LSH, MINUS_ONE, 64, 0, false);
        shift(LSH, MINUS_ONE, 255, 0, false);
        shift(LSH, MINUS_ONE, -1, MOST, false);
        shift(LSH, LEAST, -35, 1, false);
        shift(LSH, MINUS_ONE, -35, 1, false);
        shift(LSH, MINUS_ONE, -36, 0, false);
        shift(LSH, MINUS_ONE, -64, 0, false);
        shift(LSH, MINUS_ONE, -256, 0, false);
    }

    private static void rot() {
        Check.sentence("ROT: round.");
        shift(ROT, 5, 0, 5, false);
        shift(ROT, LEAST, 1, 1, false);
        shift(ROT, 1, -1, LEAST, false);
        shift(ROT, 5, 35, Bench.word(0400000, 2), false);
        shift(ROT, 5, 36, 5, false);
        shift(ROT, 5, 37, 10, false);
        shift(ROT, 5, -35, 10, false);
        shift(ROT, 5, -36, 5, false);
        shift(ROT, 5, -37, Bench.word(0400000, 2), false);
        shift(ROT, 5, 72, 5, false);
        shift(ROT, 5, 252, 5, false);
        shift(ROT, 5, 255, 40, false);
        shift(ROT, 5, -252, 5, false);
        shift(ROT, 0120, -256, 5, false);
        shift(ROT, MINUS_ONE, 17, MINUS_ONE, false);
    }
}
