/** Promise 7: how many steps are made, what a step is, and how it traps. */
public final class RunTest {
    private static final int SKIP_NEVER = 0300;
    private static final int XCT = 0256;

    public static void main(String[] args) {
        refusals();
        countsSteps();
        halt();
        pcWraps();
        operationsThatAreNotListed();
        theAddressComesBeforeTheOperation();
        trapWord();
        whatWasDoneStays();
        overflowStays();
        Check.end();
    }

    private static void refusals() {
        for (int n : new int[] {0, -1, 101, 1000, Integer.MIN_VALUE, Integer.MAX_VALUE}) {
            WordMachine x = new WordMachine();
            x.start(5, true);
            Check.same("run(" + n + ")", x.run(n), -1);
            Check.same("PC after run(" + n + ")", x.look(0), 5);
            Check.same("USER after run(" + n + ")", x.look(1), 1);
            Check.same("steps after run(" + n + ")", x.look(4), 0);
            Bench b = new Bench().go(Bench.code(0254, 4, 0));
            Check.same("run(" + n + ") when STOPPED", b.machine.run(n), -1);
        }
    }

    private static void countsSteps() {
        for (int n : new int[] {1, 2, 50, 99, 100}) {
            Bench b = new Bench();
            for (int i = 0; i < 100; i++) {
                b.put(0100 + i, Bench.code(SKIP_NEVER, 0, 0));
            }
            b.machine.start(0100, false);
            Check.same("run(" + n + ")", b.machine.run(n), n);
            Check.same("PC after run(" + n + ")", b.pc(), 0100 + n);
            Check.same("steps after run(" + n + ")", b.machine.look(4), n);
        }
    }

    private static void halt() {
        Bench b = new Bench().put(0100, Bench.code(SKIP_NEVER, 0, 0)).put(0101, Bench.code(0254, 4, 0765432));
        b.machine.start(0100, false);
        Check.same("run(9) to a HALT", b.machine.run(9), 2);
        Check.same("PC of HALT", b.pc(), 0765432);
        Check.same("STOPPED", b.machine.look(3), 1);
        Check.same("run(9) when STOPPED", b.machine.run(9), 0);
        Check.same("no trap", b.trap(), 0);
        b = new Bench().put(5, Bench.code(0254, 4, 0300)).goFrom(5, true, 1);
        Check.same("HALT in USER", b.trap(), 2);
        Check.same("not STOPPED in USER", b.machine.look(3), 0);
        Check.same("its word", b.at(040), Bench.word(010002, 5));
    }

    private static void pcWraps() {
        Bench b = new Bench().put(0, Bench.code(SKIP_NEVER, 0, 0)).goFrom(0777777, false, 1);
        Check.same("the last address is outside", b.at(040), Bench.word(1, 0777777));
        Check.same("PC behind the store", new Bench().put(01777, Bench.code(SKIP_NEVER, 0, 0))
            .goFrom(01777, false, 1).pc(), 02000);
        b = new Bench().goFrom(02000, false, 1);
        Check.same("no instruction behind the store", b.at(040), Bench.word(1, 02000));
    }

    private static boolean isListed(int op) {
        if (op < 0200) {
            return op >= 0133 && op <= 0137;
        }
        if (op >= 0220 && op < 0240) {
            return (op & 4) == 0;
        }
        if (op >= 0240 && op < 0270) {
            return op <= 0242 || op >= 0250 && op <= 0254 || op == 0256 || op >= 0260 && op <= 0265;
        }
        return op < 0700;
    }

    private static void operationsThatAreNotListed() {
        for (int op = 0; op <= 0777; op++) {
            Bench b = new Bench().put(1, Bench.word(0, 0300)).put(Bench.E, Bench.pointer(0, 6, 0, 0, 0300));
            b.put(Bench.E + 1, 0).go(Bench.code(op, op == 0254 ? 0 : 1, op == XCT ? 0100 : Bench.E));
            int due = op == XCT ? 4 : isListed(op) ? 0 : 2;
            Check.same("trap of OP 0" + Integer.toOctalString(op), b.trap(), due);
            if (due == 2) {
                Check.same("word of OP 0" + Integer.toOctalString(op), b.at(040), Bench.word(2, Bench.PC));
            }
        }
        for (int ac = 0; ac < 16; ac++) {
            int due = ac == 0 || ac == 1 || ac == 4 ? 0 : 2;
            Check.same("trap of JRST with AC " + ac, new Bench().go(Bench.code(0254, ac, 0300)).trap(), due);
        }
    }

    private static void theAddressComesBeforeTheOperation() {
        Check.same("not listed, I outside", new Bench().go(Bench.code(0777, 0, 1, 0, 02000)).trap(), 1);
        Check.same("not listed, I without end", new Bench().go(Bench.code(0, 0, 1, 0, Bench.PC)).trap(), 4);
        Check.same("not listed, E outside", new Bench().go(Bench.code(0, 0, 02000)).trap(), 2);
        Check.same("JRST 2, I outside", new Bench().go(Bench.code(0254, 2, 1, 0, 02000)).trap(), 1);
        Bench b = new Bench().put(5, Bench.code(0254, 4, 1, 0, 0300)).goFrom(5, true, 1);
        Check.same("HALT in USER, I outside", b.trap(), 1);
    }

    private static void trapWord() {
        Bench b = new Bench();
        b.machine.segment(0, 256, 64);
        b.put(040, Bench.WORD).put(256 + 040, 7).put(256 + 030, 0).goFrom(030, true, 1);
        Check.same("word in USER", b.at(040), Bench.word(010002, 030));
        Check.same("not by the low segment", b.at(256 + 040), 7);
        Check.same("PC", b.pc(), 041);
        Check.same("EXEC", b.machine.look(1), 0);
        Check.same("not STOPPED", b.machine.look(3), 0);
        b.put(1, Bench.MOST).put(256 + 030, Bench.code(0340, 1, 0)).put(256 + 031, Bench.code(0200, 1, 0100));
        b.goFrom(030, true, 2);
        Check.same("word in USER with OVERFLOW", b.at(040), Bench.word(0410001, 031));
        Check.same("OVERFLOW stays", b.overflow(), true);
        b.put(041, Bench.code(0256, 0, 041)).on(1);
        Check.same("word in EXEC with OVERFLOW", b.at(040), Bench.word(0400004, 041));
        Check.same("traps", b.machine.look(5), 3);
    }

    private static void whatWasDoneStays() {
        Bench b = new Bench().put(2, Bench.word(0777777, 01777)).go(Bench.code(0261, 2, 0300));
        Check.same("the stack has grown", b.at(2), Bench.word(0, 02000));
        Check.same("with OVERFLOW in the word", b.at(040), Bench.word(0400001, Bench.PC));
        Check.same("with OVERFLOW", b.overflow(), true);
        b = new Bench().put(3, Bench.LEAST).go(Bench.code(0212, 3, Bench.OUTSIDE));
        Check.same("OVERFLOW when the result is made", b.at(040), Bench.word(0400001, Bench.PC));
        b = new Bench().put(01776, 5).put(01777, 6).put(3, Bench.word(01776, 0300)).go(Bench.code(0251, 3, 0310));
        Check.same("the block's first word", b.at(0300), 5);
        Check.same("the block's second word", b.at(0301), 6);
        Check.same("the block's trap", b.at(040), Bench.word(1, Bench.PC));
        b = new Bench().put(Bench.E, Bench.pointer(0, 6, 0, 0, 01777)).put(3, 9).go(Bench.code(0134, 3, Bench.E));
        Check.same("the pointer went on", b.at(Bench.E), Bench.pointer(30, 6, 0, 0, 02000));
        Check.same("but no byte came", b.at(3), 9);
        Check.same("trap of the byte", b.trap(), 1);
    }

    private static void overflowStays() {
        Bench b = new Bench().put(1, Bench.MOST).put(0100, Bench.code(0340, 1, 0)).put(0101, Bench.code(0201, 1, 3));
        b.put(0102, Bench.code(0271, 1, 4)).goFrom(0100, false, 3);
        Check.same("the sum", b.at(1), 7);
        Check.same("OVERFLOW stays", b.overflow(), true);
    }
}
