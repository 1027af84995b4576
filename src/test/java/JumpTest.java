/** Promise 7: exchange, blocks, counting halves, and jumps by AC. */
public final class JumpTest {
    private static final int EXCHANGE = 0250;
    private static final int BLOCK = 0251;

    public static void main(String[] args) {
        exchange();
        blocks();
        blocksThatOverlap();
        blocksToTheirOwnAccumulator();
        blocksThatTrap();
        countingHalves();
        jumpsByAccumulator();
        Check.end();
    }

    private static void exchange() {
        Bench b = row().put(5, 0123).put(Bench.E, Bench.word(0301, 0456)).go(Bench.code(EXCHANGE, 5, Bench.E));
        Check.same("AC", b.at(5), Bench.word(0301, 0456));
        Check.same("(E)", b.at(Bench.E), 0123);
        Check.same("nothing else", b.at(0456), 0);
        b = new Bench().put(0, 0123).put(7, 0456).go(Bench.code(EXCHANGE, 0, 7));
        Check.same("accumulator 0", b.at(0), 0456);
        Check.same("accumulator 7", b.at(7), 0123);
        b = new Bench().put(5, 0123).go(Bench.code(EXCHANGE, 5, 5));
        Check.same("AC with itself", b.at(5), 0123);
        b = new Bench().put(5, 0123).go(Bench.code(EXCHANGE, 5, Bench.OUTSIDE));
        Check.same("trap", b.trap(), 1);
        Check.same("AC of the trapped one", b.at(5), 0123);
    }

    private static Bench row() {
        Bench b = new Bench();
        for (int i = 0; i < 8; i++) {
            b.put(0300 + i, 0500 + i);
        }
        return b;
    }

    private static void blocks() {
        for (int e = 0374; e <= 0410; e++) {
            Bench b = row().put(5, Bench.word(0300, 0401)).go(Bench.code(BLOCK, 5, e));
            int count = e <= 0401 ? 1 : e - 0400;
            for (int i = 0; i < 8; i++) {
                Check.same("word " + i + " of a block to " + e, b.at(0401 + i), i < count ? 0500 + i : 0);
            }
            Check.same("the word before", b.at(0400), 0);
            Check.same("AC stays", b.at(5), Bench.word(0300, 0401));
            Check.same("PC", b.pc(), Bench.PC + 1);
            Check.same("no trap", b.trap(), 0);
        }
    }

    private static void blocksThatOverlap() {
        Bench b = row().put(5, Bench.word(0300, 0301)).go(Bench.code(BLOCK, 5, 0310));
        for (int place = 0300; place <= 0310; place++) {
            Check.same("filled " + place, b.at(place), 0500);
        }
        b = row().put(5, Bench.word(0301, 0300)).go(Bench.code(BLOCK, 5, 0306));
        for (int place = 0300; place <= 0306; place++) {
            Check.same("moved " + place, b.at(place), 0500 + place - 0277);
        }
        Check.same("the last stays", b.at(0307), 0507);
    }

    private static void blocksToTheirOwnAccumulator() {
        Bench b = row().put(5, Bench.word(0300, 4)).go(Bench.code(BLOCK, 5, 7));
        for (int i = 0; i < 4; i++) {
            Check.same("accumulator " + (4 + i), b.at(4 + i), 0500 + i);
        }
        Check.same("the next one", b.at(8), 0);
    }

    private static void blocksThatTrap() {
        Bench b = row().put(5, Bench.word(0300, 01776)).go(Bench.code(BLOCK, 5, 0777777));
        Check.same("trap", b.trap(), 1);
        Check.same("before the end", b.at(01776), 0500);
        Check.same("at the end", b.at(01777), 0501);
        Check.same("AC stays", b.at(5), Bench.word(0300, 01776));
        b = new Bench().put(0, 7).put(5, Bench.word(0777777, 0300)).go(Bench.code(BLOCK, 5, 0301));
        Check.same("from outside", b.trap(), 1);
        Check.same("nothing from outside", b.at(0301), 0);
        b = new Bench().put(5, Bench.word(0300, 02000)).go(Bench.code(BLOCK, 5, 0));
        Check.same("at least one word", b.trap(), 1);
    }

    private static void countingHalves() {
        for (int ac : new int[] {0, 3}) {
            counts(ac, Bench.word(0777775, 0100), Bench.word(0777776, 0101));
            counts(ac, Bench.word(0777777, 0100), Bench.word(0, 0101));
            counts(ac, Bench.word(0777777, 0777777), Bench.word(0, 0));
            counts(ac, Bench.word(5, 0777777), Bench.word(6, 0));
            counts(ac, Bench.word(0377777, 0), Bench.word(0400000, 1));
            counts(ac, Bench.word(0400000, 0777777), Bench.word(0400001, 0));
        }
    }

    private static void counts(int ac, long word, long due) {
        for (int op = 0252; op <= 0253; op++) {
            Bench b = new Bench().put(ac, word).go(Bench.code(op, ac, 0765432));
            boolean jumps = due >= Bench.LEAST == (op == 0253);
            Check.same("AC of OP " + op + " of " + word, b.at(ac), due);
            Check.same("PC of OP " + op + " of " + word, b.pc(), jumps ? 0765432 : Bench.PC + 1);
            Check.same("OVERFLOW of OP " + op + " of " + word, b.overflow(), false);
        }
    }

    private static void jumpsByAccumulator() {
        Bench b = new Bench().go(Bench.code(0254, 0, 0765432));
        Check.same("PC", b.pc(), 0765432);
        Check.same("still EXEC", b.machine.look(1), 0);
        b = new Bench().go(Bench.code(0254, 1, 0765432));
        Check.same("PC of AC 1", b.pc(), 0765432);
        Check.same("USER", b.machine.look(1), 1);
        Check.same("no trap yet", b.trap(), 0);
        Check.same("the word of the trap", b.on(1).at(040), Bench.word(010001, 0765432));
        b = new Bench().put(5, Bench.code(0254, 0, 7)).goFrom(5, true, 1);
        Check.same("PC in USER", b.pc(), 7);
        Check.same("still USER", b.machine.look(1), 1);
        b = new Bench().put(5, Bench.code(0254, 1, 7)).goFrom(5, true, 1);
        Check.same("AC 1 in USER", b.pc(), 7);
        Check.same("USER still", b.machine.look(1), 1);
        b = new Bench().put(5, Bench.code(0254, 2, 7)).goFrom(5, true, 1);
        Check.same("AC 2 in USER", b.at(040), Bench.word(010002, 5));
    }
}
