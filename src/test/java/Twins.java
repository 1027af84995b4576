import java.util.function.Consumer;

/**
 * "What is refused changes nothing.": two machines are brought to one state, one of them alone gets
 * the refused call, and after it both must answer alike. An object has 512 calls, so the store is
 * compared in parts, each with two new machines.
 */
final class Twins {
    private static final int PART = 256;
    private static final int LOW_BASE = 0400;
    private static final int HIGH_BASE = 0700;
    private static final int[] USER_ADDRESSES = {
        017, 020, 077, 0100, 01377, 01777, 0377777, 0400000, 0400007, 0400010, 0401777, 0777777};

    private Twins() {
    }

    /** The states are what they are meant to be: else the comparison would tell less than it says. */
    static void checkStates() {
        looks("amid a run", made(Twins::amidRun), 7, 1, 1, 0, 3, 1, 4);
        looks("STOPPED", made(Twins::stopped), 0123456, 0, 1, 1, 5, 1, 4);
        Check.same("a word of the store", made(Twins::amidRun).examine(01000), 0123456765432L);
        Check.same("the last word of LOW", loaded(made(Twins::amidRun), 077), 0222);
        Check.same("the last word of HIGH", loaded(made(Twins::stopped), 0400007), 0444);
    }

    private static void looks(String what, WordMachine x, int... due) {
        for (int i = 0; i < due.length; i++) {
            Check.same(what + ": look(" + i + ")", x.look(i), due[i]);
        }
    }

    /** In all states in which a call may be refused: new, amid a user's program, STOPPED. */
    static void unchanged(String what, Consumer<WordMachine> refused) {
        unchanged(what + " when new", x -> { }, refused);
        unchanged(what + " amid a run", Twins::amidRun, refused);
        unchanged(what + " when STOPPED", Twins::stopped, refused);
    }

    private static void unchanged(String what, Consumer<WordMachine> before, Consumer<WordMachine> refused) {
        for (int from = 0; from < 1024; from += PART) {
            WordMachine one = made(before);
            WordMachine other = made(before);
            refused.accept(one);
            sameLooks(what, one, other);
            for (int place = from; place < from + PART; place++) {
                Check.same(what + ": examine(" + place + ")", one.examine(place), other.examine(place));
            }
        }
        WordMachine one = made(before);
        WordMachine other = made(before);
        refused.accept(one);
        sameSegments(what, one, other);
        one = made(before);
        other = made(before);
        refused.accept(one);
        Check.same(what + ": the next run", one.run(3), other.run(3));
        sameLooks(what + ": the next run", one, other);
    }

    private static WordMachine made(Consumer<WordMachine> before) {
        WordMachine x = new WordMachine();
        before.accept(x);
        return x;
    }

    private static void sameLooks(String what, WordMachine one, WordMachine other) {
        for (int i = 0; i <= 6; i++) {
            Check.same(what + ": look(" + i + ")", one.look(i), other.look(i));
        }
    }

    private static void sameSegments(String what, WordMachine one, WordMachine other) {
        for (int address : USER_ADDRESSES) {
            Check.same(what + ": the word at " + address + " in USER", loaded(one, address), loaded(other, address));
        }
    }

    private static long loaded(WordMachine x, int address) {
        int traps = x.look(5);
        x.deposit(1, 0);
        x.deposit(4, Bench.code(0200, 1, address));
        x.start(4, true);
        x.run(1);
        return x.look(5) == traps ? x.examine(1) : -1;
    }

    /** A store full of words, both segments set, a trap with 4 long past; at PC 7 in USER with OVERFLOW. */
    private static void amidRun(WordMachine x) {
        fill(x);
        x.deposit(5, Bench.code(0256, 0, 5));
        x.start(5, true);
        x.run(1);
        x.deposit(2, Bench.MOST);
        x.deposit(6, Bench.code(0340, 2, 0));
        x.deposit(7, Bench.code(0200, 3, 020));
        x.start(6, true);
        x.run(1);
    }

    private static void stopped(WordMachine x) {
        amidRun(x);
        x.deposit(6, Bench.code(0340, 2, 0));
        x.deposit(7, Bench.code(0254, 4, 0123456));
        x.deposit(2, Bench.MOST);
        x.start(6, false);
        x.run(2);
    }

    private static void fill(WordMachine x) {
        x.deposit(020, 0123456765432L);
        x.deposit(1, Bench.word(020, 021));
        x.deposit(2, Bench.code(0251, 1, 01777));
        x.start(2, false);
        x.run(1);
        for (int i = 0; i < 16; i++) {
            x.deposit(i, 0700 + i);
        }
        x.deposit(01777, 01777);
        x.segment(0, LOW_BASE, 0100);
        x.segment(1, HIGH_BASE, 010);
        x.deposit(LOW_BASE + 020, 0111);
        x.deposit(LOW_BASE + 077, 0222);
        x.deposit(HIGH_BASE, 0333);
        x.deposit(HIGH_BASE + 7, 0444);
    }
}
