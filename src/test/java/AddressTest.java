/** Promise 7: E of an instruction by X and I, XCT, and how many words a step may take. */
public final class AddressTest {
    private static final int MOVEI = 0201;
    private static final int MOVE = 0200;
    private static final int XCT = 0256;

    public static void main(String[] args) {
        index();
        indirect();
        execute();
        mostWords();
        mostWordsTogether();
        tooMuchComesBeforeOutside();
        Check.end();
    }

    private static long address(Bench b, int i, int x, long y) {
        return b.go(Bench.code(MOVEI, 1, i, x, y)).at(1);
    }

    private static void index() {
        Check.same("Y", address(new Bench(), 0, 0, 0123456), 0123456);
        Check.same("X 0 is no index", address(new Bench().put(0, 5), 0, 0, 7), 7);
        for (int x = 1; x < 16; x++) {
            Check.same("X " + x, address(new Bench().put(x, Bench.word(0777777, 5)), 0, x, 7), 12);
            Check.same("X " + x + " wraps", address(new Bench().put(x, Bench.WORD), 0, x, 7), 6);
            Check.same("X " + x + " wraps", address(new Bench().put(x, 0777777), 0, x, 0777777), 0777776);
        }
        Bench b = new Bench().put(3, 0100).put(0123, 077).go(Bench.code(MOVE, 1, 0, 3, 023));
        Check.same("(E) by X", b.at(1), 077);
    }

    private static void indirect() {
        Check.same("I", address(new Bench().put(0200, Bench.word(0777400, 0321)), 1, 0, 0200), 0321);
        Check.same("I of an accumulator", address(new Bench().put(3, 0321), 1, 0, 3), 0321);
        Check.same("X before I", address(new Bench().put(3, 5).put(0205, 0321), 1, 3, 0200), 0321);
        Check.same("X of the word", address(new Bench().put(3, 5).put(0200, Bench.word(3, 0321)), 1, 0, 0200), 0326);
        Bench b = new Bench().put(0200, Bench.indirect(4, 0201)).put(4, 2).put(0203, Bench.word(4, 0400000));
        Check.same("I twice with X", address(b, 1, 0, 0200), 0400002);
        Check.same("I outside", new Bench().go(Bench.code(MOVEI, 1, 1, 0, 02000)).trap(), 1);
        Check.same("I of I outside", new Bench().put(0200, Bench.indirect(0, 02000))
            .go(Bench.code(MOVEI, 1, 1, 0, 0200)).trap(), 1);
        b = new Bench().put(1, 0200).put(0200, 0300).go(Bench.code(MOVE, 1, 1, 1, 0));
        Check.same("AC as X", b.at(1), 0);
    }

    private static void execute() {
        Bench b = new Bench().put(0300, Bench.code(MOVEI, 5, 0123)).go(Bench.code(XCT, 7, 0300));
        Check.same("what XCT does", b.at(5), 0123);
        Check.same("PC behind XCT", b.pc(), Bench.PC + 1);
        Check.same("one step", b.machine.look(4), 1);
        b = new Bench().put(0300, Bench.code(0304, 5, 0)).go(Bench.code(XCT, 0, 0300));
        Check.same("a skip by XCT", b.pc(), Bench.PC + 2);
        b = new Bench().put(0300, Bench.code(0265, 5, 0400)).go(Bench.code(XCT, 0, 0300));
        Check.same("PC WORD by XCT", b.at(5), Bench.PC + 1);
        Check.same("a jump by XCT", b.pc(), 0400);
        b = new Bench().put(3, 0100).put(0300, Bench.code(MOVEI, 5, 0, 3, 1)).go(Bench.code(XCT, 0, 0, 3, 0200));
        Check.same("X of both", b.at(5), 0101);
        Check.same("XCT outside", new Bench().go(Bench.code(XCT, 0, 02000)).trap(), 1);
        b = new Bench().put(0300, Bench.code(0, 0, 0)).go(Bench.code(XCT, 0, 0300));
        Check.same("XCT of what is not listed", b.at(040), Bench.word(2, Bench.PC));
    }

    /** A chain of words with I, the last one without, from the place 0400 on. */
    private static Bench chain(Bench b, int length) {
        for (int i = 0; i < length - 1; i++) {
            b.put(0400 + i, Bench.indirect(0, 0401 + i));
        }
        return b.put(0400 + length - 1, 0321);
    }

    /** Instructions XCT, each of the next, and at last a load by I if there are words for it. */
    private static Bench executes(Bench b, int length, int words) {
        for (int i = 0; i < length - 1; i++) {
            b.put(0500 + i, Bench.code(XCT, 0, 0501 + i));
        }
        return chain(b, Math.max(words, 1)).put(0500 + length - 1, Bench.code(MOVEI, 1, words == 0 ? 0 : 1, 0, 0400));
    }

    private static void mostWords() {
        for (int length = 1; length <= 12; length++) {
            Bench b = chain(new Bench(), length).go(Bench.code(MOVEI, 1, 1, 0, 0400));
            Check.same("trap of a chain of " + length, b.trap(), length <= 8 ? 0 : 4);
            Check.same("E of a chain of " + length, b.at(1), length <= 8 ? 0321 : 0);
            b = executes(new Bench(), length, 0).go(Bench.code(XCT, 0, 0500));
            Check.same("trap of XCT of " + length, b.trap(), length <= 8 ? 0 : 4);
            Check.same("AC by XCT of " + length, b.at(1), length <= 8 ? 0400 : 0);
        }
        Check.same("I without end", new Bench().go(Bench.code(MOVEI, 1, 1, 0, Bench.PC)).at(040),
            Bench.word(4, Bench.PC));
        Check.same("XCT without end", new Bench().go(Bench.code(XCT, 1, Bench.PC)).at(040), Bench.word(4, Bench.PC));
    }

    private static void mostWordsTogether() {
        for (int xcts = 1; xcts <= 8; xcts++) {
            for (int words = 1; words <= 8; words++) {
                Bench b = executes(new Bench(), xcts, words).go(Bench.code(XCT, 0, 0500));
                Check.same("trap of " + xcts + " and " + words, b.trap(), xcts + words <= 8 ? 0 : 4);
            }
        }
        for (int words = 1; words <= 8; words++) {
            for (int more = 1; more <= 8; more++) {
                Bench b = chain(new Bench(), words).put(0400 + words - 1, 0300);
                b.put(0300, Bench.pointer(0, 6, 1, 0, 0500));
                for (int i = 0; i < more; i++) {
                    b.put(0500 + i, i == more - 1 ? 0301 : Bench.indirect(0, 0501 + i));
                }
                b.go(Bench.code(0135, 1, 1, 0, 0400));
                Check.same("trap of a byte by " + words + " and " + more, b.trap(), words + more <= 8 ? 0 : 4);
            }
        }
        Bench b = executes(new Bench(), 8, 0).go(Bench.code(XCT, 0, 0500));
        Check.same("each step has words of its own", b.put(Bench.PC + 1, Bench.code(XCT, 0, 0500)).on(1).trap(), 0);
    }

    private static void tooMuchComesBeforeOutside() {
        Bench b = chain(new Bench(), 8).put(0407, Bench.indirect(0, 02000)).go(Bench.code(MOVEI, 1, 1, 0, 0400));
        Check.same("a ninth word outside", b.trap(), 4);
        b = chain(new Bench(), 7).put(0406, Bench.indirect(0, 02000)).go(Bench.code(MOVEI, 1, 1, 0, 0400));
        Check.same("an eighth word outside", b.trap(), 1);
    }
}
