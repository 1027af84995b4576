/** Promise 7: bytes of any size under pointers. */
public final class ByteTest {
    private static final int GO_ON = 0133;
    private static final int GO_ON_AND_LOAD = 0134;
    private static final int LOAD = 0135;
    private static final int GO_ON_AND_STORE = 0136;
    private static final int STORE = 0137;
    private static final int POINTER = 0300;
    private static final long WORD = 0531246017723L;
    private static final long OWN = 0246135742653L;

    public static void main(String[] args) {
        for (int p = 0; p < 64; p++) {
            for (int s = 0; s < 64; s++) {
                loads(p, s);
                stores(p, s);
                goesOn(p, s);
                goesOnAndLoads(p, s);
                goesOnAndStores(p, s);
            }
        }
        otherBitsOfThePointer();
        addresses();
        trapsOfBytes();
        pointerInAccumulators();
        Check.end();
    }

    private static long loaded(int p, int s, long word) {
        long result = 0;
        for (int i = 0; i < Math.min(s, 36); i++) {
            if (p + i < 36) {
                result |= (word >> (p + i) & 1) << i;
            }
        }
        return result;
    }

    private static long stored(int p, int s, long word, long own) {
        long result = word;
        for (int i = 0; i < Math.min(s, 36); i++) {
            if (p + i < 36) {
                result = result & ~(1L << (p + i)) | (own >> i & 1) << (p + i);
            }
        }
        return result;
    }

    private static boolean staysInWord(int p, int s) {
        return p >= s;
    }

    private static int nextP(int p, int s) {
        return staysInWord(p, s) ? p - s : s > 36 ? 0 : 36 - s;
    }

    private static int nextY(int p, int s, int y) {
        return staysInWord(p, s) ? y : y + 1;
    }

    private static Bench bench(int p, int s) {
        return new Bench().put(POINTER, Bench.pointer(p, s, 0, 0, Bench.E)).put(Bench.E, WORD)
            .put(Bench.E + 1, ~WORD).put(5, OWN);
    }

    private static void loads(int p, int s) {
        Bench b = bench(p, s).go(Bench.code(LOAD, 5, POINTER));
        Check.same("load " + p + ", " + s, b.at(5), loaded(p, s, WORD));
        Check.same("pointer of load", b.at(POINTER), Bench.pointer(p, s, 0, 0, Bench.E));
        Check.same("word of load", b.at(Bench.E), WORD);
    }

    private static void stores(int p, int s) {
        Bench b = bench(p, s).go(Bench.code(STORE, 5, POINTER));
        Check.same("store " + p + ", " + s, b.at(Bench.E), stored(p, s, WORD, OWN));
        Check.same("pointer of store", b.at(POINTER), Bench.pointer(p, s, 0, 0, Bench.E));
        Check.same("AC of store", b.at(5), OWN);
    }

    private static void goesOn(int p, int s) {
        Bench b = bench(p, s).go(Bench.code(GO_ON, 5, POINTER));
        long due = Bench.pointer(nextP(p, s), s, 0, 0, nextY(p, s, Bench.E));
        Check.same("pointer " + p + ", " + s, b.at(POINTER), due);
        Check.same("AC of it", b.at(5), OWN);
        Check.same("no trap of it", b.trap(), 0);
    }

    private static void goesOnAndLoads(int p, int s) {
        Bench b = bench(p, s).go(Bench.code(GO_ON_AND_LOAD, 5, POINTER));
        long word = staysInWord(p, s) ? WORD : ~WORD & Bench.WORD;
        Check.same("next load " + p + ", " + s, b.at(5), loaded(nextP(p, s), s, word));
        Check.same("its pointer", b.at(POINTER), Bench.pointer(nextP(p, s), s, 0, 0, nextY(p, s, Bench.E)));
    }

    private static void goesOnAndStores(int p, int s) {
        Bench b = bench(p, s).go(Bench.code(GO_ON_AND_STORE, 5, POINTER));
        int place = nextY(p, s, Bench.E);
        long word = staysInWord(p, s) ? WORD : ~WORD & Bench.WORD;
        Check.same("next store " + p + ", " + s, b.at(place), stored(nextP(p, s), s, word, OWN));
        Check.same("its pointer", b.at(POINTER), Bench.pointer(nextP(p, s), s, 0, 0, place));
    }

    private static void otherBitsOfThePointer() {
        long bit = 1L << 23;
        Bench b = bench(6, 6).put(POINTER, Bench.pointer(6, 6, 0, 0, Bench.E) | bit).go(Bench.code(LOAD, 5, POINTER));
        Check.same("the bit does not count", b.at(5), loaded(6, 6, WORD));
        b = new Bench().put(POINTER, Bench.pointer(0, 7, 1, 4, 0777777) | bit).go(Bench.code(GO_ON, 1, POINTER));
        Check.same("Y wraps, the rest stays", b.at(POINTER), Bench.pointer(29, 7, 1, 4, 0) | bit);
        b = new Bench().put(POINTER, Bench.pointer(36, 7, 1, 017, 0777777) | bit).go(Bench.code(GO_ON, 1, POINTER));
        Check.same("within a word the rest stays", b.at(POINTER), Bench.pointer(29, 7, 1, 017, 0777777) | bit);
    }

    private static void addresses() {
        Bench b = bench(6, 6).put(3, 0100).put(POINTER, Bench.pointer(6, 6, 0, 3, 0100));
        Check.same("by X", b.go(Bench.code(LOAD, 5, POINTER)).at(5), loaded(6, 6, WORD));
        b = bench(6, 6).put(0500, Bench.E).put(POINTER, Bench.pointer(6, 6, 1, 0, 0500));
        Check.same("by I", b.go(Bench.code(LOAD, 5, POINTER)).at(5), loaded(6, 6, WORD));
        b = bench(6, 6).put(3, 2).put(0502, Bench.word(3, Bench.E - 2)).put(POINTER, Bench.pointer(6, 6, 1, 3, 0500));
        Check.same("by X and I", b.go(Bench.code(STORE, 5, POINTER)).at(Bench.E), stored(6, 6, WORD, OWN));
        b = bench(6, 6).put(3, POINTER);
        Check.same("a pointer by I", b.go(Bench.code(LOAD, 5, 1, 0, 3)).at(5), loaded(6, 6, WORD));
    }

    private static void trapsOfBytes() {
        for (int op = GO_ON; op <= STORE; op++) {
            Bench b = new Bench().put(5, OWN).go(Bench.code(op, 5, Bench.OUTSIDE));
            Check.same("pointer outside", b.trap(), 1);
            Check.same("AC of it", b.at(5), OWN);
            for (int s : new int[] {0, 6, 63}) {
                long before = Bench.pointer(63, s, 0, 0, Bench.OUTSIDE);
                b = new Bench().put(5, OWN).put(POINTER, before).go(Bench.code(op, 5, POINTER));
                Check.same("word outside", b.trap(), op == GO_ON ? 0 : 1);
                Check.same("AC of it", b.at(5), OWN);
                boolean goesOn = op == GO_ON || op == GO_ON_AND_LOAD || op == GO_ON_AND_STORE;
                long after = Bench.pointer(63 - s, s, 0, 0, Bench.OUTSIDE);
                Check.same("pointer of it", b.at(POINTER), goesOn ? after : before);
            }
        }
    }

    private static void pointerInAccumulators() {
        Bench b = bench(0, 0).put(5, Bench.pointer(36, 6, 0, 0, Bench.E)).go(Bench.code(GO_ON_AND_LOAD, 5, 5));
        Check.same("a pointer in AC", b.at(5), loaded(30, 6, WORD));
        b = bench(0, 0).put(5, Bench.pointer(36, 6, 0, 0, Bench.E)).go(Bench.code(GO_ON_AND_STORE, 5, 5));
        Check.same("stores of AC as it became", b.at(Bench.E),
            stored(30, 6, WORD, Bench.pointer(30, 6, 0, 0, Bench.E)));
        b = bench(0, 0).put(3, Bench.pointer(0, 36, 0, 3, 0)).put(1, OWN).put(4, 5).put(2, WORD);
        b.go(Bench.code(GO_ON_AND_LOAD, 5, 3));
        Check.same("X of the pointer as it became", b.at(5), WORD);
    }
}
