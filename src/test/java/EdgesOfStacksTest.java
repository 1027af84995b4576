/** The boundary cases of exchange, blocks, jumps, XCT and stacks: a method for each sentence, in the document's order. */
public final class EdgesOfStacksTest {
    private static final int EXCHANGE = 0250;
    private static final int BLOCK = 0251;
    private static final int XCT = 0256;
    private static final int CALL = 0260;
    private static final int PUSH = 0261;
    private static final int POP = 0262;
    private static final int RETURN = 0263;
    private static final long OLD = 0111111222222L;

    public static void main(String[] args) {
        exchange();
        blockUpToE();
        blockAtLeastOne();
        blockWordByWord();
        blockAtTheEnds();
        halvesGrow();
        jumpIfNotBelow();
        jumpsOfZeroAndOne();
        otherAccumulators();
        execute();
        pushGrows();
        pushTakesThen();
        popFallsThen();
        popFalls();
        callOfPush();
        returnOfPop();
        overflowByGrowing();
        overflowByFalling();
        pcWordToE();
        pcWordToAc();
        pcWordFlags();
        Check.end();
    }

    private static void exchange() {
        Check.sentence("250 C(AC) and (E) change places.");
        for (int ac : new int[] {0, 1, 017}) {
            Bench b = new Bench().put(ac, Bench.WORD).put(01777, 5).go(Bench.code(EXCHANGE, ac, 01777));
            Check.same("AC " + ac, b.at(ac), 5);
            Check.same("the last E inside", b.at(01777), Bench.WORD);
            b = new Bench().put(ac, 7).go(Bench.code(EXCHANGE, ac, 02000));
            Check.same("the first E beyond: trap", b.trap(), 1);
            Check.same("the first E beyond: AC " + ac, b.at(ac), 7);
        }
        Check.same("AC with itself", new Bench().put(3, 7).go(Bench.code(EXCHANGE, 3, 3)).at(3), 7);
    }

    /** Words 0501 .. 0507 at 0301 .. 0307. */
    private static Bench row() {
        Bench b = new Bench();
        for (int i = 1; i < 8; i++) {
            b.put(0300 + i, 0500 + i);
        }
        return b;
    }

    private static int copied(int to, int e) {
        Bench b = row().put(5, Bench.word(0301, to)).go(Bench.code(BLOCK, 5, e));
        Check.same("no trap", b.trap(), 0);
        Check.same("AC stays", b.at(5), Bench.word(0301, to));
        Check.same("PC", b.pc(), Bench.PC + 1);
        Check.same("the word before", b.at(to - 1), 0);
        int count = 0;
        while (count < 7 && b.at(to + count) == 0501 + count) {
            count++;
        }
        for (int i = count; i < 7; i++) {
            Check.same("a word behind", b.at(to + i), 0);
        }
        return count;
    }

    private static void blockUpToE() {
        Check.sentence("251 BLOCK: word by word, up to E");
        Check.same("E is one more than the first", copied(0400, 0401), 2);
        Check.same("E is two more", copied(0400, 0402), 3);
        Check.same("E is six more", copied(0400, 0406), 7);
    }

    private static void blockAtLeastOne() {
        Check.sentence("(at least one word)");
        Check.same("E is the first", copied(0400, 0400), 1);
        Check.same("E is below the first", copied(0400, 0377), 1);
        Check.same("E is 0", copied(0400, 0), 1);
        Check.same("E is an accumulator", copied(0400, 017), 1);
        Bench b = new Bench().put(5, Bench.word(0301, 02000)).go(Bench.code(BLOCK, 5, 0));
        Check.same("the one word beyond the store", b.trap(), 1);
        b = new Bench().put(5, Bench.word(02000, 0301)).put(0301, 7).go(Bench.code(BLOCK, 5, 0));
        Check.same("the one word from beyond the store", b.trap(), 1);
        Check.same("stays what it was", b.at(0301), 7);
    }

    private static void blockWordByWord() {
        Check.sentence("from the address in the LEFT half of C(AC) word by word to that in the RIGHT half");
        Bench b = row().put(5, Bench.word(0301, 0302)).go(Bench.code(BLOCK, 5, 0307));
        Check.same("one word up: the first", b.at(0302), 0501);
        Check.same("one word up: the last", b.at(0307), 0501);
        Check.same("one word up: behind", b.at(0310), 0);
        b = row().put(5, Bench.word(0302, 0301)).go(Bench.code(BLOCK, 5, 0306));
        Check.same("one word down: the first", b.at(0301), 0502);
        Check.same("one word down: the last", b.at(0306), 0507);
        Check.same("one word down: behind", b.at(0307), 0507);
        b = row().put(5, Bench.word(0301, 4)).go(Bench.code(BLOCK, 5, 6));
        Check.same("through AC: before", b.at(4), 0501);
        Check.same("through AC: AC", b.at(5), 0502);
        Check.same("through AC: behind", b.at(6), 0503);
        b = row().put(5, Bench.word(0301, 0301)).go(Bench.code(BLOCK, 5, 0307));
        Check.same("to itself", b.at(0304), 0504);
    }

    private static void blockAtTheEnds() {
        Check.sentence("BLOCK and a place beyond the store: what was done before stays");
        Bench b = row().put(5, Bench.word(0301, 01776)).go(Bench.code(BLOCK, 5, 01777));
        Check.same("to the last place", b.trap(), 0);
        Check.same("the last place", b.at(01777), 0502);
        b = row().put(5, Bench.word(0301, 01776)).go(Bench.code(BLOCK, 5, 02000));
        Check.same("one further", b.trap(), 1);
        Check.same("the last place all the same", b.at(01777), 0502);
        b = new Bench().put(01777, 7).put(5, Bench.word(01777, 0300)).go(Bench.code(BLOCK, 5, 0300));
        Check.same("from the last place", b.trap(), 0);
        b = new Bench().put(01777, 7).put(5, Bench.word(01777, 0300)).go(Bench.code(BLOCK, 5, 0301));
        Check.same("from one further", b.trap(), 1);
        Check.same("the word from the last place all the same", b.at(0300), 7);
        b = new Bench().put(0, 7).put(5, Bench.word(0777777, 0300)).put(0301, 6).go(Bench.code(BLOCK, 5, 0301));
        Check.same("from the last address", b.trap(), 1);
        Check.same("and no further", b.at(0301), 6);
    }

    private static void halvesGrow() {
        Check.sentence("252, 253: both halves of C(AC) grow by 1, each for itself");
        long[][] cases = {{0, 0, 1, 1}, {0, 0777776, 1, 0777777}, {0, 0777777, 1, 0}, {0777776, 5, 0777777, 6},
            {0777777, 5, 0, 6}, {0777777, 0777777, 0, 0}, {0377777, 5, 0400000, 6}, {0377777, 0777777, 0400000, 0}};
        for (int op = 0252; op <= 0253; op++) {
            for (int ac : new int[] {0, 1, 017}) {
                for (long[] c : cases) {
                    Bench b = new Bench().put(ac, Bench.word(c[0], c[1])).go(Bench.code(op, ac, 0300));
                    Check.same("AC " + ac + " of " + c[0] + ",," + c[1], b.at(ac), Bench.word(c[2], c[3]));
                    Check.same("no OVERFLOW of " + c[0] + ",," + c[1], b.overflow(), false);
                }
            }
        }
    }

    private static void jumpIfNotBelow() {
        Check.sentence("then PC = E if it is not below 0 (252), below 0 (253)");
        long[][] cases = {{0777775, 0, 1}, {0777776, 0, 1}, {0777776, 0777776, 1}, {0777776, 0777777, 1}, {0777777, 0, 0},
            {0777777, 0777777, 0}, {0, 0, 0}, {0377776, 0, 0}, {0377777, 0, 1}, {0400000, 0, 1}};
        for (long[] c : cases) {
            boolean below = c[2] == 1;
            String what = "of " + c[0] + ",," + c[1];
            Bench b = new Bench().put(1, Bench.word(c[0], c[1])).go(Bench.code(0252, 1, 0765432));
            Check.same("252 " + what, b.pc(), below ? Bench.PC + 1 : 0765432);
            b = new Bench().put(1, Bench.word(c[0], c[1])).go(Bench.code(0253, 1, 0765432));
            Check.same("253 " + what, b.pc(), below ? 0765432 : Bench.PC + 1);
        }
    }

    private static void jumpsOfZeroAndOne() {
        Check.sentence("254 AC 0: PC = E. AC 1: PC = E, MODE USER.");
        for (int e : new int[] {0, 01777, 02000, 0777777}) {
            Bench b = new Bench().go(Bench.code(0254, 0, e));
            Check.same("AC 0: PC", b.pc(), e);
            Check.same("AC 0: MODE", b.machine.look(1), 0);
            Check.same("AC 0: STOPPED", b.machine.look(3), 0);
            b = new Bench().go(Bench.code(0254, 1, e));
            Check.same("AC 1: PC", b.pc(), e);
            Check.same("AC 1: MODE", b.machine.look(1), 1);
            Check.same("AC 1: STOPPED", b.machine.look(3), 0);
        }
        Bench b = new Bench().put(5, Bench.code(0254, 0, 0300)).goFrom(5, true, 1);
        Check.same("AC 0 in USER: MODE", b.machine.look(1), 1);
        Check.same("AC 0 in USER: PC", b.pc(), 0300);
        b = new Bench().put(5, Bench.code(0254, 1, 0300)).goFrom(5, true, 1);
        Check.same("AC 1 in USER: MODE", b.machine.look(1), 1);
        Check.same("AC 1 in USER: PC", b.pc(), 0300);
    }

    private static void otherAccumulators() {
        Check.sentence("AC 4: HALT. Other AC: TRAP 2.");
        for (int ac = 0; ac < 16; ac++) {
            boolean is = ac == 0 || ac == 1 || ac == 4;
            Bench b = new Bench().go(Bench.code(0254, ac, 0300));
            Check.same("trap with AC " + ac, b.trap(), is ? 0 : 2);
            Check.same("STOPPED with AC " + ac, b.machine.look(3), ac == 4 ? 1 : 0);
            Check.same("PC with AC " + ac, b.pc(), is ? 0300 : 041);
            b = new Bench().put(5, Bench.code(0254, ac, 0300)).goFrom(5, true, 1);
            Check.same("trap in USER with AC " + ac, b.trap(), ac < 2 ? 0 : 2);
            Check.same("place 040 in USER with AC " + ac, b.at(040), ac < 2 ? 0 : Bench.word(010002, 5));
        }
    }

    private static void execute() {
        Check.sentence("256 XCT: the instruction at E is done in the place of this one.");
        for (int ac : new int[] {0, 1, 017}) {
            Bench b = new Bench().put(01777, Bench.code(0201, 3, 5)).go(Bench.code(XCT, ac, 01777));
            Check.same("the last E inside", b.at(3), 5);
            Check.same("PC", b.pc(), Bench.PC + 1);
            Check.same("the first E beyond", new Bench().go(Bench.code(XCT, ac, 02000)).trap(), 1);
        }
        Check.same("a skip", new Bench().put(0300, Bench.code(0304, 0, 0)).go(Bench.code(XCT, 0, 0300)).pc(),
            Bench.PC + 2);
        Check.same("a PC WORD", new Bench().put(0300, Bench.code(0265, 3, 0)).go(Bench.code(XCT, 0, 0300)).at(3),
            Bench.PC + 1);
        Check.same("a HALT", new Bench().put(0300, Bench.code(0254, 4, 7)).go(Bench.code(XCT, 0, 0300)).machine.look(3), 1);
        Bench b = new Bench().put(0300, Bench.code(XCT, 0, 0301)).put(0301, Bench.code(0201, 3, 5));
        Check.same("an XCT", b.go(Bench.code(XCT, 0, 0300)).at(3), 5);
        Check.same("one step", b.machine.look(4), 1);
    }

    private static Bench stack(int left, int right) {
        return new Bench().put(2, Bench.word(left, right));
    }

    private static void pushGrows() {
        Check.sentence("261 both halves of C(AC) grow by 1, each for itself");
        int[][] cases = {{0, 0400, 1, 0401}, {0777776, 0400, 0777777, 0401}, {0777777, 0400, 0, 0401},
            {5, 0777777, 6, 0}, {0777777, 0777777, 0, 0}, {0377777, 01776, 0400000, 01777}};
        for (int[] c : cases) {
            Bench b = stack(c[0], c[1]).put(0300, OLD).go(Bench.code(PUSH, 2, 0300));
            Check.same("AC of " + c[0] + ",," + c[1], b.at(2), Bench.word(c[2], c[3]));
            Check.same("the top of " + c[0] + ",," + c[1], b.at(c[3]), OLD);
            Check.same("no trap of " + c[0] + ",," + c[1], b.trap(), 0);
        }
        Bench b = stack(5, 01777).put(0300, OLD).go(Bench.code(PUSH, 2, 0300));
        Check.same("the first top beyond the store", b.trap(), 1);
        Check.same("its AC has grown", b.at(2), Bench.word(6, 02000));
    }

    private static void pushTakesThen() {
        Check.sentence("then (E) is taken and put where the RIGHT half of C(AC) says");
        Check.same("(E) is AC", stack(3, 0400).go(Bench.code(PUSH, 2, 2)).at(0401), Bench.word(4, 0401));
        Check.same("(E) is the new top", stack(3, 0400).put(0401, 7).go(Bench.code(PUSH, 2, 0401)).at(0401), 7);
        Check.same("the top is AC", stack(3, 1).put(0300, OLD).go(Bench.code(PUSH, 2, 0300)).at(2), OLD);
        Check.same("E by X is made before", stack(3, 0400).put(0405, 7).go(Bench.code(PUSH, 2, 0, 2, 5)).at(0401), 7);
        Bench b = stack(0777777, 0400).put(0401, 7).go(Bench.code(PUSH, 2, 02000));
        Check.same("(E) beyond the store: trap", b.trap(), 1);
        Check.same("(E) beyond the store: AC", b.at(2), Bench.word(0, 0401));
        Check.same("(E) beyond the store: OVERFLOW", b.overflow(), true);
        Check.same("(E) beyond the store: the top", b.at(0401), 7);
    }

    private static void popFallsThen() {
        Check.sentence("262 what its RIGHT half tells is put to E; then both halves fall by 1");
        Bench b = stack(3, 0400).put(0400, 7).go(Bench.code(POP, 2, 0300));
        Check.same("(E)", b.at(0300), 7);
        Check.same("AC", b.at(2), Bench.word(2, 0377));
        Check.same("the old top stays", b.at(0400), 7);
        Check.same("E is AC", stack(3, 0400).put(0400, Bench.word(5, 5)).go(Bench.code(POP, 2, 2)).at(2), Bench.word(4, 4));
        for (int left : new int[] {0, 0777777}) {
            b = stack(left, 02000).put(0300, OLD).go(Bench.code(POP, 2, 0300));
            Check.same("a top beyond the store: trap", b.trap(), 1);
            Check.same("a top beyond the store: AC", b.at(2), Bench.word(left, 02000));
            Check.same("a top beyond the store: (E)", b.at(0300), OLD);
            Check.same("a top beyond the store: OVERFLOW", b.overflow(), false);
            b = stack(left, 0400).go(Bench.code(POP, 2, 02000));
            Check.same("E beyond the store: trap", b.trap(), 1);
            Check.same("E beyond the store: AC", b.at(2), Bench.word(left, 0400));
            Check.same("E beyond the store: OVERFLOW", b.overflow(), false);
        }
    }

    private static void popFalls() {
        Check.sentence("262: both halves fall by 1, each for itself");
        int[][] cases = {{1, 0400, 0, 0377}, {0, 0400, 0777777, 0377}, {0777777, 0400, 0777776, 0377}, {5, 1, 4, 0},
            {5, 0, 4, 0777777}, {0, 0, 0777777, 0777777}, {0400000, 01777, 0377777, 01776}};
        for (int[] c : cases) {
            Bench b = stack(c[0], c[1]).put(c[1], OLD).go(Bench.code(POP, 2, 0300));
            Check.same("AC of " + c[0] + ",," + c[1], b.at(2), Bench.word(c[2], c[3]));
            Check.same("(E) of " + c[0] + ",," + c[1], b.at(0300), OLD);
        }
    }

    private static void callOfPush() {
        Check.sentence("260: as 261 with the PC WORD, then PC = E");
        int[][] cases = {{3, 0400, 4, 0401}, {3, 01776, 4, 01777}, {3, 0777777, 4, 0}};
        for (int[] c : cases) {
            Bench b = stack(c[0], c[1]).go(Bench.code(CALL, 2, 0777777));
            Check.same("AC", b.at(2), Bench.word(c[2], c[3]));
            Check.same("the PC WORD", b.at(c[3]), Bench.PC + 1);
            Check.same("PC", b.pc(), 0777777);
        }
        Bench b = stack(3, 01777).go(Bench.code(CALL, 2, 0300));
        Check.same("the first top beyond the store: trap", b.at(040), Bench.word(1, Bench.PC));
        Check.same("the first top beyond the store: AC", b.at(2), Bench.word(4, 02000));
        Check.same("the first top beyond the store: PC", b.pc(), 041);
        b = stack(3, 1).go(Bench.code(CALL, 2, 0300));
        Check.same("the top is AC", b.at(2), Bench.PC + 1);
    }

    private static void returnOfPop() {
        Check.sentence("263: the RIGHT half of what its RIGHT half tells becomes PC; then both halves fall");
        int[][] cases = {{3, 0400, 2, 0377}, {3, 01777, 2, 01776}, {3, 0, 2, 0777777}, {0400000, 0400, 0377777, 0377}};
        for (int[] c : cases) {
            Bench b = stack(c[0], c[1]).put(c[1], Bench.word(0777777, 0654321)).go(Bench.code(RETURN, 2, 02000));
            Check.same("PC", b.pc(), 0654321);
            Check.same("AC", b.at(2), Bench.word(c[2], c[3]));
            Check.same("MODE and OVERFLOW stay", b.machine.look(1) + b.machine.look(2), 0);
            Check.same("no trap", b.trap(), 0);
        }
        for (int left : new int[] {0, 0777777}) {
            Bench b = stack(left, 02000).go(Bench.code(RETURN, 2, 0));
            Check.same("a top beyond the store: trap", b.at(040), Bench.word(1, Bench.PC));
            Check.same("a top beyond the store: AC", b.at(2), Bench.word(left, 02000));
            Check.same("a top beyond the store: OVERFLOW", b.overflow(), false);
        }
    }

    private static void overflowByGrowing() {
        Check.sentence("(If the LEFT half becomes 0 by growing, OVERFLOW.)");
        for (int op : new int[] {CALL, PUSH}) {
            Check.same("0777776 grows", stack(0777776, 0400).go(Bench.code(op, 2, 0300)).overflow(), false);
            Check.same("0777777 grows", stack(0777777, 0400).go(Bench.code(op, 2, 0300)).overflow(), true);
            Check.same("0 grows", stack(0, 0400).go(Bench.code(op, 2, 0300)).overflow(), false);
            Check.same("0377777 grows", stack(0377777, 0400).go(Bench.code(op, 2, 0300)).overflow(), false);
            Check.same("the RIGHT half to 0", stack(5, 0777777).go(Bench.code(op, 2, 0300)).overflow(), false);
        }
        for (int op : new int[] {POP, RETURN}) {
            Check.same("0 by falling", stack(1, 0400).go(Bench.code(op, 2, 0300)).overflow(), false);
        }
        Check.same("the PC WORD has it", stack(0777777, 0400).go(Bench.code(CALL, 2, 0300)).at(0401),
            Bench.word(0400000, Bench.PC + 1));
    }

    private static void overflowByFalling() {
        Check.sentence("(If the LEFT half becomes 0777777 by falling, OVERFLOW.)");
        for (int op : new int[] {POP, RETURN}) {
            Check.same("1 falls", stack(1, 0400).go(Bench.code(op, 2, 0300)).overflow(), false);
            Check.same("0 falls", stack(0, 0400).go(Bench.code(op, 2, 0300)).overflow(), true);
            Check.same("0777777 falls", stack(0777777, 0400).go(Bench.code(op, 2, 0300)).overflow(), false);
            Check.same("0400000 falls", stack(0400000, 0400).go(Bench.code(op, 2, 0300)).overflow(), false);
            Check.same("the RIGHT half to 0777777", stack(5, 0).go(Bench.code(op, 2, 0300)).overflow(), false);
        }
        for (int op : new int[] {CALL, PUSH}) {
            Check.same("0777777 by growing", stack(0777776, 0400).go(Bench.code(op, 2, 0300)).overflow(), false);
        }
    }

    private static void pcWordToE() {
        Check.sentence("264: the PC WORD is put to E, PC = E + 1.");
        Bench b = new Bench().put(5, OLD).go(Bench.code(0264, 5, 01777));
        Check.same("the last E inside", b.at(01777), Bench.PC + 1);
        Check.same("PC behind the store", b.pc(), 02000);
        Check.same("AC stays", b.at(5), OLD);
        b = new Bench().go(Bench.code(0264, 5, 02000));
        Check.same("the first E beyond", b.at(040), Bench.word(1, Bench.PC));
        Check.same("its PC", b.pc(), 041);
        Check.same("E 0", new Bench().go(Bench.code(0264, 5, 0)).pc(), 1);
    }

    private static void pcWordToAc() {
        Check.sentence("265: it is put to AC, PC = E.");
        for (int ac : new int[] {0, 1, 017}) {
            Bench b = new Bench().go(Bench.code(0265, ac, 0777777));
            Check.same("AC " + ac, b.at(ac), Bench.PC + 1);
            Check.same("PC", b.pc(), 0777777);
            Check.same("no place is looked at", b.trap(), 0);
        }
        Check.same("E was made before", new Bench().put(5, 0300).go(Bench.code(0265, 5, 0, 5, 1)).pc(), 0301);
        Check.same("the last PC", new Bench().put(01777, Bench.code(0265, 5, 0)).goFrom(01777, false, 1).at(5), 02000);
    }

    private static void pcWordFlags() {
        Check.sentence("PC WORD: PC and, in the LEFT half, 0400000 if OVERFLOW, 010000 if USER.");
        int[][] cases = {{0, 0, 0}, {0, 1, 010000}, {1, 0, 0400000}, {1, 1, 0410000}};
        for (int[] c : cases) {
            for (int op : new int[] {0260, 0264, 0265}) {
                Bench b = new Bench().put(1, c[0] == 1 ? Bench.MOST : 0).put(3, Bench.code(0340, 1, 0));
                b.put(2, Bench.word(5, 5)).put(4, Bench.code(op, op == 0265 ? 6 : 2, 6)).goFrom(3, c[1] == 1, 2);
                Check.same("0" + Integer.toOctalString(op) + ", OVERFLOW " + c[0] + ", USER " + c[1], b.at(6),
                    Bench.word(c[2], 5));
            }
        }
    }
}
