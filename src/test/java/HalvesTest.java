/** Promise 7: the halves of words, in all modes. */
public final class HalvesTest {
    private static final long[] SOURCES = {
        0123456654321L, 0400000377777L, 0377777400000L, 0777777000000L, 0000000777777L};
    private static final long OLD = 0135702246135L;

    public static void main(String[] args) {
        for (int xx = 0; xx < 64; xx++) {
            for (long source : SOURCES) {
                for (int ac : new int[] {0, 1, 017}) {
                    one(xx, ac, source);
                }
            }
            outside(xx);
        }
        byHand();
        Check.end();
    }

    private static long due(int xx, long source, long changed) {
        boolean right = xx >= 32;
        boolean other = xx / 4 % 2 == 1;
        long half = (right ^ other ? source : source >> 18) & 0777777;
        long rest = 0;
        switch (xx / 8 % 4) {
            case 0:
                rest = (right ? changed >> 18 : changed) & 0777777;
                break;
            case 2:
                rest = 0777777;
                break;
            case 3:
                rest = half >= 0400000 ? 0777777 : 0;
                break;
            default:
                break;
        }
        return right ? Bench.word(rest, half) : Bench.word(half, rest);
    }

    private static void one(int xx, int ac, long word) {
        String what = "OP 0" + Integer.toOctalString(0500 + xx) + " of " + word + " AC " + ac;
        int op = 0500 + xx;
        switch (xx % 4) {
            case 0: {
                Bench b = new Bench().put(ac, OLD).put(Bench.E, word).go(Bench.code(op, ac, Bench.E));
                Check.same(what + " to AC", b.at(ac), due(xx, word, OLD));
                Check.same(what + " leaves (E)", b.at(Bench.E), word);
                break;
            }
            case 1: {
                Bench b = new Bench().put(ac, OLD).go(Bench.code(op, ac, word & 0777777));
                Check.same(what + " to AC", b.at(ac), due(xx, word & 0777777, OLD));
                Check.same(what + " trap", b.trap(), 0);
                break;
            }
            case 2: {
                Bench b = new Bench().put(ac, word).put(Bench.E, OLD).go(Bench.code(op, ac, Bench.E));
                Check.same(what + " to E", b.at(Bench.E), due(xx, word, OLD));
                Check.same(what + " leaves AC", b.at(ac), word);
                break;
            }
            default: {
                Bench b = new Bench().put(ac, OLD).put(Bench.E, word).go(Bench.code(op, ac, Bench.E));
                Check.same(what + " to E", b.at(Bench.E), due(xx, word, word));
                Check.same(what + " to AC", b.at(ac), ac == 0 ? OLD : due(xx, word, word));
            }
        }
    }

    private static void outside(int xx) {
        if (xx % 4 == 1) {
            return;
        }
        Bench b = new Bench().put(1, OLD).go(Bench.code(0500 + xx, 1, Bench.OUTSIDE));
        Check.same("trap of OP 5 " + xx, b.trap(), 1);
        Check.same("AC of trapped OP 5 " + xx, b.at(1), OLD);
    }

    /** Octal OPs with answers worked out by hand. */
    private static void byHand() {
        Check.same("0500", result(0500), 0654321222222L);
        Check.same("0504", result(0504), 0123456222222L);
        Check.same("0510", result(0510), 0654321000000L);
        Check.same("0524", result(0524), 0123456777777L);
        Check.same("0530", result(0530), 0654321777777L);
        Check.same("0534", result(0534), 0123456000000L);
        Check.same("0540", result(0540), 0111111123456L);
        Check.same("0544", result(0544), 0111111654321L);
        Check.same("0554", result(0554), 0000000654321L);
        Check.same("0560", result(0560), 0777777123456L);
        Check.same("0570", result(0570), 0000000123456L);
        Check.same("0574", result(0574), 0777777654321L);
    }

    private static long result(int op) {
        return new Bench().put(1, 0111111222222L).put(Bench.E, 0654321123456L).go(Bench.code(op, 1, Bench.E)).at(1);
    }
}
