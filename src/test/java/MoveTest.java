/** Promise 7: the moves, in all modes. */
public final class MoveTest {
    private static final long OLD = 0111111222222L;

    public static void main(String[] args) {
        for (int kind = 0; kind < 4; kind++) {
            for (long word : Bench.EDGES) {
                toAccumulator(kind, word);
                toStore(kind, word);
                toBoth(kind, word);
            }
            for (int e : new int[] {0, 1, 0377777, 0400000, 0777777, 02000}) {
                immediate(kind, e);
            }
            outside(kind);
        }
        accumulatorAsE();
        Check.end();
    }

    private static int op(int kind, int mode) {
        return 0200 + 4 * kind + mode;
    }

    private static long due(int kind, long word) {
        long number = Bench.number(word);
        switch (kind) {
            case 0:
                return word;
            case 1:
                return Bench.word(word, word >> 18);
            case 2:
                return -number & Bench.WORD;
            default:
                return (number < 0 ? -number : number) & Bench.WORD;
        }
    }

    private static boolean overflows(int kind, long word) {
        return kind >= 2 && word == Bench.LEAST;
    }

    private static void toAccumulator(int kind, long word) {
        for (int ac : new int[] {0, 1, 017}) {
            Bench b = new Bench().put(ac, OLD).put(Bench.E, word).go(Bench.code(op(kind, 0), ac, Bench.E));
            Check.same("move " + kind + " to AC", b.at(ac), due(kind, word));
            Check.same("move " + kind + " leaves (E)", b.at(Bench.E), word);
            Check.same("OVERFLOW of move " + kind, b.overflow(), overflows(kind, word));
            Check.same("PC of move " + kind, b.pc(), Bench.PC + 1);
        }
    }

    private static void toStore(int kind, long word) {
        for (int ac : new int[] {0, 1, 017}) {
            Bench b = new Bench().put(ac, word).put(Bench.E, OLD).go(Bench.code(op(kind, 2), ac, Bench.E));
            Check.same("move " + kind + " to E", b.at(Bench.E), due(kind, word));
            Check.same("move " + kind + " leaves AC", b.at(ac), word);
            Check.same("OVERFLOW of move " + kind + " to E", b.overflow(), overflows(kind, word));
        }
    }

    private static void toBoth(int kind, long word) {
        for (int ac : new int[] {0, 1, 017}) {
            Bench b = new Bench().put(ac, OLD).put(Bench.E, word).go(Bench.code(op(kind, 3), ac, Bench.E));
            Check.same("move " + kind + " to both, E", b.at(Bench.E), due(kind, word));
            Check.same("move " + kind + " to both, AC " + ac, b.at(ac), ac == 0 ? OLD : due(kind, word));
            Check.same("OVERFLOW of move " + kind + " to both", b.overflow(), overflows(kind, word));
        }
    }

    private static void immediate(int kind, int e) {
        for (int ac : new int[] {0, 1, 017}) {
            Bench b = new Bench().put(ac, OLD).go(Bench.code(op(kind, 1), ac, e));
            Check.same("move " + kind + " of E", b.at(ac), due(kind, e));
            Check.same("no trap of move " + kind + " of E", b.trap(), 0);
            Check.same("no OVERFLOW of move " + kind + " of E", b.overflow(), false);
        }
    }

    private static void outside(int kind) {
        for (int mode = 0; mode < 4; mode++) {
            if (mode == 1) {
                continue;
            }
            Bench b = new Bench().put(1, OLD).go(Bench.code(op(kind, mode), 1, Bench.OUTSIDE));
            Check.same("trap of move " + kind + mode, b.trap(), 1);
            Check.same("AC of trapped move " + kind + mode, b.at(1), OLD);
        }
    }

    private static void accumulatorAsE() {
        Check.same("MOVN from an accumulator", new Bench().put(5, 7).go(Bench.code(0210, 1, 5)).at(1), 0777777777771L);
        Check.same("MOVNS of AC itself", new Bench().put(5, 7).go(Bench.code(0213, 5, 5)).at(5), 0777777777771L);
        Check.same("MOVNS of 0 itself", new Bench().put(0, 7).go(Bench.code(0213, 0, 0)).at(0), 0777777777771L);
    }
}
