/** Promise 7: stacks, calls and returns. */
public final class StackTest {
    private static final int CALL = 0260;
    private static final int PUSH = 0261;
    private static final int POP = 0262;
    private static final int RETURN = 0263;
    private static final int STACK = 0400;

    public static void main(String[] args) {
        push();
        pushOverflow();
        pushOfItself();
        pop();
        popOverflow();
        popToItself();
        call();
        returns();
        pcWords();
        trapsOfStacks();
        Check.end();
    }

    private static Bench stack(int left, int right) {
        return new Bench().put(2, Bench.word(left, right)).put(Bench.E, 0123456654321L);
    }

    private static void push() {
        Bench b = stack(0777700, STACK).go(Bench.code(PUSH, 2, Bench.E));
        Check.same("AC", b.at(2), Bench.word(0777701, STACK + 1));
        Check.same("the new top", b.at(STACK + 1), 0123456654321L);
        Check.same("the old top", b.at(STACK), 0);
        Check.same("PC", b.pc(), Bench.PC + 1);
        b = stack(5, 0777777).put(0, 7).go(Bench.code(PUSH, 2, Bench.E));
        Check.same("AC wraps on the right", b.at(2), Bench.word(6, 0));
        Check.same("the top at 0", b.at(0), 0123456654321L);
        b = new Bench().put(0, STACK).put(5, 6).go(Bench.code(PUSH, 0, 5));
        Check.same("AC 0 is a stack", b.at(STACK + 1), 6);
    }

    private static void pushOverflow() {
        Check.same("to 0", stack(0777777, STACK).go(Bench.code(PUSH, 2, Bench.E)).overflow(), true);
        Check.same("to 1", stack(0, STACK).go(Bench.code(PUSH, 2, Bench.E)).overflow(), false);
        Check.same("to 0777777", stack(0777776, STACK).go(Bench.code(PUSH, 2, Bench.E)).overflow(), false);
        Check.same("to 0400000", stack(0377777, STACK).go(Bench.code(PUSH, 2, Bench.E)).overflow(), false);
    }

    private static void pushOfItself() {
        Bench b = stack(3, STACK).go(Bench.code(PUSH, 2, 2));
        Check.same("AC has grown before it is taken", b.at(STACK + 1), Bench.word(4, STACK + 1));
        b = stack(3, STACK).put(STACK + 5, 9).go(Bench.code(PUSH, 2, 0, 2, 5));
        Check.same("but E was made before", b.at(STACK + 1), 9);
        b = stack(3, 1).put(Bench.E, 77).go(Bench.code(PUSH, 2, Bench.E));
        Check.same("the stack on its own AC", b.at(2), 77);
    }

    private static void pop() {
        Bench b = stack(0777701, STACK + 1).put(STACK + 1, 5).go(Bench.code(POP, 2, Bench.E));
        Check.same("AC", b.at(2), Bench.word(0777700, STACK));
        Check.same("(E)", b.at(Bench.E), 5);
        Check.same("the old top stays", b.at(STACK + 1), 5);
        b = stack(5, 0).put(0, 8).go(Bench.code(POP, 2, Bench.E));
        Check.same("AC wraps on the right", b.at(2), Bench.word(4, 0777777));
        Check.same("the top at 0", b.at(Bench.E), 8);
        Check.same("no OVERFLOW", b.overflow(), false);
    }

    private static void popOverflow() {
        Bench b = stack(0, STACK).go(Bench.code(POP, 2, Bench.E));
        Check.same("to 0777777", b.overflow(), true);
        Check.same("AC", b.at(2), Bench.word(0777777, STACK - 1));
        Check.same("to 0", stack(1, STACK).go(Bench.code(POP, 2, Bench.E)).overflow(), false);
        Check.same("to 0777776", stack(0777777, STACK).go(Bench.code(POP, 2, Bench.E)).overflow(), false);
    }

    private static void popToItself() {
        Bench b = stack(3, STACK).put(STACK, Bench.word(0100, 0200)).go(Bench.code(POP, 2, 2));
        Check.same("what came falls", b.at(2), Bench.word(077, 0177));
        b = stack(3, STACK).put(STACK, Bench.word(0, 0)).go(Bench.code(POP, 2, 2));
        Check.same("what came falls below 0", b.at(2), Bench.WORD);
        Check.same("with OVERFLOW", b.overflow(), true);
        b = stack(0, STACK).put(STACK, Bench.word(5, 0)).go(Bench.code(POP, 2, 2));
        Check.same("what was does not count", b.overflow(), false);
    }

    private static void call() {
        Bench b = stack(3, STACK).go(Bench.code(CALL, 2, 0765432));
        Check.same("AC", b.at(2), Bench.word(4, STACK + 1));
        Check.same("the PC WORD", b.at(STACK + 1), Bench.PC + 1);
        Check.same("PC", b.pc(), 0765432);
        b = stack(0777777, STACK).go(Bench.code(CALL, 2, 0300));
        Check.same("OVERFLOW by growing is in the PC WORD", b.at(STACK + 1), Bench.word(0400000, Bench.PC + 1));
        Check.same("OVERFLOW", b.overflow(), true);
    }

    private static void returns() {
        Bench b = stack(4, STACK + 1).put(STACK + 1, Bench.word(0777777, 0321)).go(Bench.code(RETURN, 2, Bench.OUTSIDE));
        Check.same("PC", b.pc(), 0321);
        Check.same("AC", b.at(2), Bench.word(3, STACK));
        Check.same("no OVERFLOW", b.overflow(), false);
        Check.same("MODE stays", b.machine.look(1), 0);
        b = stack(0, STACK).put(STACK, 0777777).go(Bench.code(RETURN, 2, 0));
        Check.same("OVERFLOW", b.overflow(), true);
        Check.same("PC 0777777", b.pc(), 0777777);
    }

    private static void pcWords() {
        Bench b = new Bench().go(Bench.code(0264, 5, 0300));
        Check.same("264 puts", b.at(0300), Bench.PC + 1);
        Check.same("264 goes", b.pc(), 0301);
        Check.same("264 leaves AC", b.at(5), 0);
        b = new Bench().go(Bench.code(0265, 5, 0777777));
        Check.same("265 puts", b.at(5), Bench.PC + 1);
        Check.same("265 goes", b.pc(), 0777777);
        b = new Bench().put(1, Bench.MOST).put(3, Bench.code(0340, 1, 0)).put(4, Bench.code(0265, 5, 6));
        b.put(6, Bench.code(0264, 0, 7)).put(8, Bench.code(CALL, 2, 11)).put(2, 11).goFrom(3, true, 4);
        Check.same("265 in USER with OVERFLOW", b.at(5), Bench.word(0410000, 5));
        Check.same("264 in USER with OVERFLOW", b.at(7), Bench.word(0410000, 7));
        Check.same("260 in USER with OVERFLOW", b.at(12), Bench.word(0410000, 9));
        Check.same("PC", b.pc(), 11);
        b = new Bench().put(3, Bench.code(0265, 5, 6)).goFrom(3, true, 1);
        Check.same("265 in USER", b.at(5), Bench.word(010000, 4));
        b = new Bench().put(5, 0300).go(Bench.code(0265, 5, 0, 5, 1));
        Check.same("E of 265 was made before", b.pc(), 0301);
    }

    private static void trapsOfStacks() {
        Bench b = stack(0777777, STACK).go(Bench.code(PUSH, 2, Bench.OUTSIDE));
        Check.same("PUSH from outside", b.trap(), 1);
        Check.same("AC has grown", b.at(2), Bench.word(0, STACK + 1));
        Check.same("nothing was put", b.at(STACK + 1), 0);
        b = stack(3, 01777).go(Bench.code(CALL, 2, 0300));
        Check.same("CALL to outside", b.at(040), Bench.word(1, Bench.PC));
        Check.same("PC", b.pc(), 041);
        Check.same("AC has grown", b.at(2), Bench.word(4, 02000));
        b = stack(0, 02000).go(Bench.code(POP, 2, Bench.E));
        Check.same("POP from outside", b.trap(), 1);
        Check.same("AC stays", b.at(2), Bench.word(0, 02000));
        Check.same("(E) stays", b.at(Bench.E), 0123456654321L);
        Check.same("no OVERFLOW", b.overflow(), false);
        b = stack(0, STACK).go(Bench.code(POP, 2, Bench.OUTSIDE));
        Check.same("POP to outside", b.trap(), 1);
        Check.same("AC stays", b.at(2), Bench.word(0, STACK));
        Check.same("no OVERFLOW", b.overflow(), false);
        b = stack(0777777, 02000).put(040, 0).go(Bench.code(RETURN, 2, 0));
        Check.same("RETURN from outside", b.at(040), Bench.word(1, Bench.PC));
        Check.same("AC stays", b.at(2), Bench.word(0777777, 02000));
        b = new Bench().go(Bench.code(0264, 0, Bench.OUTSIDE));
        Check.same("264 to outside", b.at(040), Bench.word(1, Bench.PC));
        Check.same("265 to outside is no trap yet", new Bench().go(Bench.code(0265, 1, Bench.OUTSIDE)).trap(), 0);
    }
}
