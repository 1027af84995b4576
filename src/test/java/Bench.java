/**
 * A machine on a test bench: words are written as octal literals or by the functions below, and the
 * instruction under test lies at PC in EXEC unless a test says otherwise.
 */
final class Bench {
    static final long WORD = 0777777777777L;
    static final long LEAST = 0400000000000L;
    static final long MOST = 0377777777777L;
    static final int PC = 0100;
    static final int E = 0200;
    static final int OUTSIDE = 02000;

    /** Words with all that matters at the edges: signs, halves, single bits, small numbers. */
    static final long[] EDGES = {
        0, 1, 2, 3, 0377777, 0400000, 0777777, 01000000, 01000001, 0377777000000L, 0377777777776L, MOST,
        LEAST, LEAST + 1, 0400000777777L, 0525252525252L, 0252525252525L, 0777777000000L, 0123456765432L,
        0777777777775L, 0777777777776L, WORD};

    final WordMachine machine = new WordMachine();

    static long word(long left, long right) {
        return (left & 0777777) << 18 | right & 0777777;
    }

    static long code(int op, int ac, long e) {
        return (long) op << 27 | (long) ac << 23 | e & 0777777;
    }

    static long code(int op, int ac, int i, int x, long y) {
        return code(op, ac, y) | (long) i << 22 | (long) x << 18;
    }

    static long indirect(int x, long y) {
        return code(0, 0, 1, x, y);
    }

    static long pointer(int p, int s, int i, int x, long y) {
        return (long) p << 30 | (long) s << 24 | code(0, 0, i, x, y);
    }

    static long number(long word) {
        return (word & LEAST) != 0 ? word - WORD - 1 : word;
    }

    static Bench withSegments(int lowBase, int lowBound, int highBase, int highBound) {
        Bench b = new Bench();
        b.machine.segment(0, lowBase, lowBound);
        b.machine.segment(1, highBase, highBound);
        return b;
    }

    Bench put(int place, long word) {
        machine.deposit(place, word);
        return this;
    }

    /** One step of an instruction at PC in EXEC. */
    Bench go(long instruction) {
        return put(PC, instruction).goFrom(PC, false, 1);
    }

    Bench goFrom(int pc, boolean user, int steps) {
        machine.start(pc, user);
        return on(steps);
    }

    Bench on(int steps) {
        machine.run(steps);
        return this;
    }

    /** What a step in USER loads from an address; -1 if it traps. The step lies in accumulator 4. */
    long loadedInUser(int address) {
        int traps = machine.look(5);
        put(1, 0).put(4, code(0200, 1, address)).goFrom(4, true, 1);
        return machine.look(5) == traps ? at(1) : -1;
    }

    long at(int place) {
        return machine.examine(place);
    }

    int pc() {
        return machine.look(0);
    }

    boolean overflow() {
        return machine.look(2) == 1;
    }

    /** The code of the trap if there was one, else 0. */
    int trap() {
        return machine.look(5) == 0 ? 0 : machine.look(6);
    }
}
