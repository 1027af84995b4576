/** The boundary cases of bytes: a method for each sentence, in the document's order. */
public final class EdgesOfBytesTest {
    private static final int GO_ON = 0133;
    private static final int GO_ON_AND_LOAD = 0134;
    private static final int LOAD = 0135;
    private static final int GO_ON_AND_STORE = 0136;
    private static final int STORE = 0137;
    private static final int AT = 0300;
    private static final int WORD_AT = 0400;
    private static final long ONES = Bench.WORD;
    private static final long OLD = 0111111222222L;

    public static void main(String[] args) {
        fields();
        bitThatDoesNotCount();
        addressOfPointer();
        wordsOfPointersCount();
        loadOfEachSize();
        sizeAtMost36();
        sizeNone();
        beyondTheWord();
        beyondTheWordNotStored();
        goesOnWithin();
        goesOnToTheNext();
        goesOnBeyond36();
        addressWraps();
        byteToAc();
        lowestBitsOfAc();
        storedInAnyCase();
        goesOnThenLoads();
        goesOnThenStores();
        Check.end();
    }

    private static Bench bench(int p, int s, long word) {
        return new Bench().put(AT, Bench.pointer(p, s, 0, 0, WORD_AT)).put(WORD_AT, word).put(5, OLD);
    }

    private static void load(int p, int s, long word, long due) {
        Bench b = bench(p, s, word).go(Bench.code(LOAD, 5, AT));
        String what = "load with P " + p + ", S " + s;
        Check.same(what, b.at(5), due);
        Check.same(what + ": the word", b.at(WORD_AT), word);
        Check.same(what + ": the pointer", b.at(AT), Bench.pointer(p, s, 0, 0, WORD_AT));
    }

    private static void store(int p, int s, long word, long own, long due) {
        Bench b = bench(p, s, word).put(5, own).put(WORD_AT + 1, OLD).go(Bench.code(STORE, 5, AT));
        String what = "store with P " + p + ", S " + s;
        Check.same(what, b.at(WORD_AT), due);
        Check.same(what + ": AC", b.at(5), own);
        Check.same(what + ": the next word", b.at(WORD_AT + 1), OLD);
        Check.same(what + ": the pointer", b.at(AT), Bench.pointer(p, s, 0, 0, WORD_AT));
    }

    private static void fields() {
        Check.sentence("a POINTER: P (6 bits), S (6 bits), 1 bit that does not count, I, X, Y");
        Bench b = new Bench().put(AT, 0360600000400L).put(WORD_AT, 0771234567012L).go(Bench.code(LOAD, 5, AT));
        Check.same("0360600,,400 is the highest byte of 6 bits", b.at(5), 077);
        b = new Bench().put(AT, 0000600000400L).put(WORD_AT, 0771234567012L).go(Bench.code(LOAD, 5, AT));
        Check.same("0000600,,400 is the lowest byte of 6 bits", b.at(5), 012);
        b = new Bench().put(AT, 0220700000400L).put(WORD_AT, Bench.word(0765432, 0)).go(Bench.code(LOAD, 5, AT));
        Check.same("0220700,,400 is the lowest byte of 7 bits of the LEFT half", b.at(5), 032);
    }

    private static void bitThatDoesNotCount() {
        Check.sentence("1 bit that does not count");
        long bit = 1L << 23;
        Bench b = bench(6, 6, 07654).put(AT, Bench.pointer(6, 6, 0, 0, WORD_AT) | bit).go(Bench.code(LOAD, 5, AT));
        Check.same("load", b.at(5), 076);
        b = bench(6, 6, 07654).put(AT, Bench.pointer(6, 6, 0, 0, WORD_AT) | bit).go(Bench.code(STORE, 5, AT));
        Check.same("store", b.at(WORD_AT), 02254);
        b = new Bench().put(AT, Bench.pointer(6, 6, 0, 0, WORD_AT) | bit).go(Bench.code(GO_ON, 5, AT));
        Check.same("going on leaves it", b.at(AT), Bench.pointer(0, 6, 0, 0, WORD_AT) | bit);
        b = new Bench().put(AT, Bench.pointer(0, 6, 0, 0, WORD_AT) | bit).go(Bench.code(GO_ON, 5, AT));
        Check.same("going on to the next word leaves it", b.at(AT), Bench.pointer(30, 6, 0, 0, WORD_AT + 1) | bit);
    }

    private static void addressOfPointer() {
        Check.sentence("an address as E of an instruction");
        Bench b = bench(0, 6, 012).put(3, 0100).put(AT, Bench.pointer(0, 6, 0, 3, 0300));
        Check.same("by X", b.go(Bench.code(LOAD, 5, AT)).at(5), 012);
        b = bench(0, 6, 012).put(0, 0100).put(AT, Bench.pointer(0, 6, 0, 0, WORD_AT));
        Check.same("X 0", b.go(Bench.code(LOAD, 5, AT)).at(5), 012);
        b = bench(0, 6, 012).put(3, 0777777).put(AT, Bench.pointer(0, 6, 0, 3, WORD_AT + 1));
        Check.same("X wraps", b.go(Bench.code(LOAD, 5, AT)).at(5), 012);
        b = bench(0, 6, 012).put(0500, WORD_AT).put(AT, Bench.pointer(0, 6, 1, 0, 0500));
        Check.same("by I", b.go(Bench.code(LOAD, 5, AT)).at(5), 012);
        b = bench(0, 6, 012).put(3, 2).put(0502, Bench.word(3, WORD_AT - 2)).put(AT, Bench.pointer(0, 6, 1, 3, 0500));
        Check.same("by X, I and X", b.go(Bench.code(LOAD, 5, AT)).at(5), 012);
        b = new Bench().put(01777, 012).put(AT, Bench.pointer(0, 6, 0, 0, 01777));
        Check.same("the last place inside", b.go(Bench.code(LOAD, 5, AT)).at(5), 012);
        b = new Bench().put(AT, Bench.pointer(0, 6, 0, 0, 02000));
        Check.same("the first place beyond", b.go(Bench.code(LOAD, 5, AT)).trap(), 1);
    }

    private static Bench chained(int op, int words) {
        Bench b = bench(0, 6, 012).put(AT, Bench.pointer(6, 6, 1, 0, 0500));
        for (int i = 0; i < words; i++) {
            b.put(0500 + i, i == words - 1 ? WORD_AT : Bench.indirect(0, 0501 + i));
        }
        return b.go(Bench.code(op, 5, AT));
    }

    private static void wordsOfPointersCount() {
        Check.sentence("The words taken so for I are at most 8 together in a step: those of pointers, too");
        for (int op : new int[] {GO_ON_AND_LOAD, LOAD, GO_ON_AND_STORE, STORE}) {
            Check.same("8 words", chained(op, 8).trap(), 0);
            Check.same("9 words", chained(op, 9).trap(), 4);
        }
        Check.same("none are taken for 133", chained(GO_ON, 9).trap(), 0);
        Bench b = chained(GO_ON_AND_STORE, 9);
        Check.same("the pointer went on before", b.at(AT), Bench.pointer(0, 6, 1, 0, 0500));
        Check.same("the word stays", b.at(WORD_AT), 012);
        for (int more = 6; more <= 8; more++) {
            b = bench(0, 6, 012).put(AT, Bench.pointer(6, 6, 1, 0, 0500)).put(0600, AT);
            for (int i = 0; i < more; i++) {
                b.put(0500 + i, i == more - 1 ? WORD_AT : Bench.indirect(0, 0501 + i));
            }
            b.go(Bench.code(LOAD, 5, 1, 0, 0600));
            Check.same("1 word for E and " + more + " for the pointer", b.trap(), more <= 7 ? 0 : 4);
        }
    }

    private static void loadOfEachSize() {
        Check.sentence("the byte: the S bits above the lowest P");
        load(0, 1, 1, 1);
        load(0, 1, ONES - 1, 0);
        load(35, 1, Bench.LEAST, 1);
        load(35, 1, Bench.MOST, 0);
        load(0, 35, ONES, Bench.MOST);
        load(1, 35, ONES - 1, Bench.MOST);
        load(1, 35, 1, 0);
        load(18, 18, Bench.word(0654321, 0123456), 0654321);
        load(0, 18, Bench.word(0654321, 0123456), 0123456);
        store(0, 1, 0, ONES, 1);
        store(35, 1, 0, ONES, Bench.LEAST);
        store(35, 1, ONES, 0, Bench.MOST);
        store(18, 18, OLD, 0654321, Bench.word(0654321, 0222222));
        store(0, 18, OLD, 0654321, Bench.word(0111111, 0654321));
        store(1, 35, 0, ONES, ONES - 1);
    }

    private static void sizeAtMost36() {
        Check.sentence("the S bits (at most 36)");
        for (int s : new int[] {36, 37, 62, 63}) {
            load(0, s, ONES, ONES);
            load(0, s, OLD, OLD);
            load(1, s, ONES, Bench.MOST);
            store(0, s, 0, ONES, ONES);
            store(0, s, ONES, OLD, OLD);
            store(1, s, 0, ONES, ONES - 1);
        }
        load(0, 35, ONES, Bench.MOST);
        store(0, 35, 0, ONES, Bench.MOST);
    }

    private static void sizeNone() {
        Check.sentence("the S bits: none with S 0");
        for (int p : new int[] {0, 1, 35, 36, 63}) {
            load(p, 0, ONES, 0);
            store(p, 0, OLD, ONES, OLD);
        }
        load(0, 1, ONES, 1);
    }

    private static void beyondTheWord() {
        Check.sentence("of it what lies beyond the word is 0");
        load(30, 6, ONES, 077);
        load(31, 6, ONES, 037);
        load(35, 6, ONES, 1);
        load(36, 6, ONES, 0);
        load(37, 6, ONES, 0);
        load(63, 6, ONES, 0);
        load(35, 36, ONES, 1);
        load(36, 36, ONES, 0);
        load(63, 63, ONES, 0);
        load(1, 36, ONES, Bench.MOST);
        load(35, 63, Bench.LEAST, 1);
    }

    private static void beyondTheWordNotStored() {
        Check.sentence("(and is not stored)");
        store(30, 6, 0, ONES, 0770000000000L);
        store(31, 6, 0, ONES, 0760000000000L);
        store(35, 6, 0, ONES, Bench.LEAST);
        store(36, 6, OLD, ONES, OLD);
        store(37, 6, OLD, ONES, OLD);
        store(63, 6, OLD, ONES, OLD);
        store(35, 36, 0, ONES, Bench.LEAST);
        store(35, 36, ONES, ONES - 1, Bench.MOST);
        store(36, 36, OLD, ONES, OLD);
        store(63, 63, OLD, ONES, OLD);
        store(28, 36, OLD, 0, OLD & 01777777777);
    }

    private static void goes(int p, int s, int dueP, int dueY) {
        Bench b = new Bench().put(AT, Bench.pointer(p, s, 0, 0, WORD_AT)).put(5, OLD).go(Bench.code(GO_ON, 5, AT));
        Check.same("P " + p + ", S " + s, b.at(AT), Bench.pointer(dueP, s, 0, 0, dueY));
        Check.same("P " + p + ", S " + s + ": AC", b.at(5), OLD);
        Check.same("P " + p + ", S " + s + ": trap", b.trap(), 0);
    }

    private static void goesOnWithin() {
        Check.sentence("133: P becomes P - S, if that is not below 0");
        goes(36, 6, 30, WORD_AT);
        goes(7, 6, 1, WORD_AT);
        goes(6, 6, 0, WORD_AT);
        goes(5, 6, 30, WORD_AT + 1);
        goes(0, 0, 0, WORD_AT);
        goes(63, 0, 63, WORD_AT);
        goes(63, 1, 62, WORD_AT);
        goes(63, 63, 0, WORD_AT);
        goes(63, 36, 27, WORD_AT);
        goes(36, 36, 0, WORD_AT);
        goes(37, 37, 0, WORD_AT);
        Check.same("the last E inside", new Bench().go(Bench.code(GO_ON, 0, 01777)).trap(), 0);
        Check.same("the first E beyond", new Bench().go(Bench.code(GO_ON, 0, 02000)).trap(), 1);
    }

    private static void goesOnToTheNext() {
        Check.sentence("else Y (18 bits) 1 more, and P 36 - S");
        goes(0, 1, 35, WORD_AT + 1);
        goes(0, 6, 30, WORD_AT + 1);
        goes(5, 6, 30, WORD_AT + 1);
        goes(0, 35, 1, WORD_AT + 1);
        goes(34, 35, 1, WORD_AT + 1);
        goes(35, 35, 0, WORD_AT);
        goes(0, 36, 0, WORD_AT + 1);
        goes(35, 36, 0, WORD_AT + 1);
    }

    private static void goesOnBeyond36() {
        Check.sentence("(0, if S is above 36)");
        goes(0, 36, 0, WORD_AT + 1);
        goes(0, 37, 0, WORD_AT + 1);
        goes(36, 37, 0, WORD_AT + 1);
        goes(0, 63, 0, WORD_AT + 1);
        goes(62, 63, 0, WORD_AT + 1);
        goes(61, 62, 0, WORD_AT + 1);
    }

    private static void addressWraps() {
        Check.sentence("Y (18 bits) 1 more");
        Bench b = new Bench().put(AT, Bench.pointer(0, 6, 1, 017, 0777776)).go(Bench.code(GO_ON, 5, AT));
        Check.same("to 0777777", b.at(AT), Bench.pointer(30, 6, 1, 017, 0777777));
        b = new Bench().put(AT, Bench.pointer(0, 6, 1, 017, 0777777)).go(Bench.code(GO_ON, 5, AT));
        Check.same("to 0, X as it was", b.at(AT), Bench.pointer(30, 6, 1, 017, 0));
        b = new Bench().put(AT, Bench.pointer(0, 6, 0, 0, 0777777)).put(0, 0770000000000L);
        b.go(Bench.code(GO_ON_AND_LOAD, 5, AT));
        Check.same("and loads from 0", b.at(5), 077);
        b = new Bench().put(AT, Bench.pointer(6, 6, 0, 0, 0777777)).go(Bench.code(GO_ON, 5, AT));
        Check.same("within the word", b.at(AT), Bench.pointer(0, 6, 0, 0, 0777777));
    }

    private static void byteToAc() {
        Check.sentence("135: the byte becomes C(AC).");
        for (int ac : new int[] {0, 1, 017}) {
            Bench b = bench(6, 6, 07654).put(ac, ONES).go(Bench.code(LOAD, ac, AT));
            Check.same("AC " + ac, b.at(ac), 076);
        }
        Bench b = new Bench().put(5, OLD).go(Bench.code(LOAD, 5, 02000));
        Check.same("a pointer beyond the store: trap", b.trap(), 1);
        Check.same("a pointer beyond the store: AC", b.at(5), OLD);
        b = new Bench().put(5, OLD).put(AT, Bench.pointer(0, 6, 0, 0, 02000)).go(Bench.code(LOAD, 5, AT));
        Check.same("a word beyond the store: trap", b.trap(), 1);
        Check.same("a word beyond the store: AC", b.at(5), OLD);
    }

    private static void lowestBitsOfAc() {
        Check.sentence("137: the lowest S bits of C(AC) become the byte");
        for (int ac : new int[] {0, 1, 017}) {
            Bench b = bench(6, 6, ONES).put(ac, 0100).go(Bench.code(STORE, ac, AT));
            Check.same("AC " + ac + ": the seventh bit does not count", b.at(WORD_AT), ONES - 07700);
            b = bench(6, 6, 0).put(ac, 0177).go(Bench.code(STORE, ac, AT));
            Check.same("AC " + ac + ": six bits", b.at(WORD_AT), 07700);
            Check.same("AC " + ac + " stays", b.at(ac), 0177);
        }
    }

    private static void storedInAnyCase() {
        Check.sentence("(the word is stored in any case)");
        for (int op : new int[] {GO_ON_AND_STORE, STORE}) {
            int[][] cases = {{0, 0}, {36, 0}, {63, 0}, {63, 6}};
            for (int[] c : cases) {
                Bench b = bench(0, 0, OLD).put(AT, Bench.pointer(c[0], c[1], 0, 0, 01777)).put(01777, OLD);
                b.go(Bench.code(op, 5, AT));
                Check.same("no bit of the last word inside: trap", b.trap(), 0);
                Check.same("no bit of the last word inside", b.at(01777), OLD);
                b = bench(0, 0, OLD).put(AT, Bench.pointer(c[0], c[1], 0, 0, 02000)).go(Bench.code(op, 5, AT));
                Check.same("no bit of the first word beyond: trap", b.trap(), 1);
            }
        }
    }

    private static void goesOnThenLoads() {
        Check.sentence("134: as 133, then as 135");
        Bench b = bench(36, 6, 0771234567012L).go(Bench.code(GO_ON_AND_LOAD, 5, AT));
        Check.same("the highest byte", b.at(5), 077);
        Check.same("its pointer", b.at(AT), Bench.pointer(30, 6, 0, 0, WORD_AT));
        b = bench(6, 6, 0771234567012L).go(Bench.code(GO_ON_AND_LOAD, 5, AT));
        Check.same("the lowest byte", b.at(5), 012);
        b = bench(0, 6, 0771234567012L).put(WORD_AT + 1, 0654321012345L).go(Bench.code(GO_ON_AND_LOAD, 5, AT));
        Check.same("the highest byte of the next word", b.at(5), 065);
        Check.same("its pointer", b.at(AT), Bench.pointer(30, 6, 0, 0, WORD_AT + 1));
        b = bench(0, 37, 0).put(WORD_AT + 1, OLD).go(Bench.code(GO_ON_AND_LOAD, 5, AT));
        Check.same("S 37: the whole next word", b.at(5), OLD);
        b = new Bench().put(5, OLD).put(AT, Bench.pointer(0, 6, 0, 0, 01777)).go(Bench.code(GO_ON_AND_LOAD, 5, AT));
        Check.same("from the last place on: trap", b.trap(), 1);
        Check.same("from the last place on: the pointer", b.at(AT), Bench.pointer(30, 6, 0, 0, 02000));
        Check.same("from the last place on: AC", b.at(5), OLD);
        b = new Bench().put(5, Bench.pointer(6, 6, 0, 0, WORD_AT)).put(WORD_AT, 012).go(Bench.code(GO_ON_AND_LOAD, 5, 5));
        Check.same("a pointer in AC", b.at(5), 012);
    }

    private static void goesOnThenStores() {
        Check.sentence("136: as 133, then as 137");
        Bench b = bench(36, 6, 0).put(5, 076).go(Bench.code(GO_ON_AND_STORE, 5, AT));
        Check.same("the highest byte", b.at(WORD_AT), 0760000000000L);
        Check.same("its pointer", b.at(AT), Bench.pointer(30, 6, 0, 0, WORD_AT));
        b = bench(6, 6, 0).put(5, 076).go(Bench.code(GO_ON_AND_STORE, 5, AT));
        Check.same("the lowest byte", b.at(WORD_AT), 076);
        b = bench(0, 6, 0).put(5, 076).go(Bench.code(GO_ON_AND_STORE, 5, AT));
        Check.same("the word before stays", b.at(WORD_AT), 0);
        Check.same("the highest byte of the next word", b.at(WORD_AT + 1), 0760000000000L);
        Check.same("its pointer", b.at(AT), Bench.pointer(30, 6, 0, 0, WORD_AT + 1));
        b = new Bench().put(5, OLD).put(AT, Bench.pointer(0, 6, 0, 0, 01777)).go(Bench.code(GO_ON_AND_STORE, 5, AT));
        Check.same("from the last place on: trap", b.trap(), 1);
        Check.same("from the last place on: the pointer", b.at(AT), Bench.pointer(30, 6, 0, 0, 02000));
        b = bench(6, 6, 0).put(5, 076).put(AT, Bench.pointer(0, 36, 0, 0, AT - 1)).go(Bench.code(GO_ON_AND_STORE, 5, AT));
        Check.same("a byte in the pointer itself", b.at(AT), 076);
    }
}
