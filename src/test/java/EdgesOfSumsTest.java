/** The boundary cases of the modes, moves, sums, logic and halves: a method for each sentence, in the document's order. */
public final class EdgesOfSumsTest {
    private static final long MOST = Bench.MOST;
    private static final long LEAST = Bench.LEAST;
    private static final long MINUS_ONE = Bench.WORD;
    private static final long OLD = 0111111222222L;
    private static final int ADD = 0270;
    private static final int SUB = 0274;
    private static final int IMUL = 0220;
    private static final int IDIV = 0230;
    private static final long OWN = Bench.word(0111111, 0222222);
    private static final long SOURCE = Bench.word(0400001, 0377776);

    public static void main(String[] args) {
        modeZero();
        modeOne();
        modeTwoOfMoves();
        modeTwoOfSums();
        modeThreeOfMoves();
        modeThreeOfSums();
        placeOfHalves();
        moveAndSwap();
        negative();
        absolute();
        leastNumber();
        add();
        subtract();
        multiply();
        lowestBitsOfProducts();
        divide();
        rest();
        restBehindTheLast();
        restOnlyWithAc();
        divideByZero();
        divideLeast();
        logicPairs();
        halfThatItGoesTo();
        otherHalfStays();
        otherHalfZeroOrOnes();
        otherHalfLikeTheHighestBit();
        Check.end();
    }

    private static void modeZero() {
        Check.sentence("0 source (E), to AC");
        for (int op : new int[] {0200, 0270, 0434, 0500}) {
            for (int ac : new int[] {0, 1, 017}) {
                Bench b = new Bench().put(0300, Bench.word(5, 0)).go(Bench.code(op, ac, 0300));
                Check.same("AC " + ac + " of OP " + op, b.at(ac), Bench.word(5, 0));
                Check.same("(E) of OP " + op, b.at(0300), Bench.word(5, 0));
            }
            Check.same("the last E inside", new Bench().go(Bench.code(op, 1, 01777)).trap(), 0);
            Check.same("the first E beyond", new Bench().go(Bench.code(op, 1, 02000)).trap(), 1);
        }
    }

    private static void modeOne() {
        Check.sentence("1 source 0,,E (LEFT half 0), to AC");
        for (int e : new int[] {0, 1, 0377777, 0400000, 0777777}) {
            Check.same("201 of " + e, new Bench().put(1, OLD).go(Bench.code(0201, 1, e)).at(1), e);
            Check.same("205 of " + e, new Bench().put(1, OLD).go(Bench.code(0205, 1, e)).at(1), (long) e << 18);
            Check.same("211 of " + e, new Bench().go(Bench.code(0211, 1, e)).machine.number(1), -e);
            Check.same("215 of " + e, new Bench().go(Bench.code(0215, 1, e)).machine.number(1), e);
            Check.same("271 of " + e, new Bench().put(1, 5).go(Bench.code(0271, 1, e)).machine.number(1), 5 + e);
            Check.same("275 of " + e, new Bench().put(1, 5).go(Bench.code(0275, 1, e)).machine.number(1), 5 - e);
            Check.same("435 of " + e, new Bench().go(Bench.code(0435, 1, e)).at(1), e);
            Check.same("541 of " + e, new Bench().put(1, OLD).go(Bench.code(0541, 1, e)).at(1), Bench.word(0111111, e));
            Check.same("545 of " + e, new Bench().put(1, OLD).go(Bench.code(0545, 1, e)).at(1), Bench.word(0111111, 0));
        }
        Bench b = new Bench().put(0300, 7).go(Bench.code(0201, 0, 02000));
        Check.same("no place is looked at", b.trap(), 0);
        Check.same("AC 0", b.at(0), 02000);
    }

    private static void modeTwoOfMoves() {
        Check.sentence("2 for moves and halves: source C(AC), to E");
        for (int ac : new int[] {0, 1, 017}) {
            Bench b = new Bench().put(ac, 5).put(0300, 6).go(Bench.code(0202, ac, 0300));
            Check.same("(E), AC " + ac, b.at(0300), 5);
            Check.same("AC " + ac, b.at(ac), 5);
            b = new Bench().put(ac, 5).put(0300, OLD).go(Bench.code(0542, ac, 0300));
            Check.same("(E) of halves, AC " + ac, b.at(0300), Bench.word(0111111, 5));
            Check.same("AC of halves " + ac, b.at(ac), 5);
        }
        Check.same("the last E inside", new Bench().put(1, 5).go(Bench.code(0202, 1, 01777)).at(01777), 5);
        Check.same("the first E beyond", new Bench().put(1, 5).go(Bench.code(0202, 1, 02000)).trap(), 1);
    }

    private static void modeTwoOfSums() {
        Check.sentence("2 for sums and logic: source (E), to E only");
        int[][] cases = {{0272, 11}, {0276, 5}, {0222, 24}, {0232, 2}, {0436, 013}, {0406, 0}, {0432, 013}};
        for (int[] c : cases) {
            for (int ac : new int[] {0, 1, 017}) {
                Bench b = new Bench().put(ac, 8).put(0300, 3).go(Bench.code(c[0], ac, 0300));
                Check.same("(E) of OP " + c[0], b.at(0300), c[1]);
                Check.same("AC of OP " + c[0], b.at(ac), 8);
            }
        }
    }

    private static void modeThreeOfMoves() {
        Check.sentence("3 for moves and halves: source (E), to E, and to AC if AC is not 0");
        int[] ops = {0203, 0207, 0213, 0217, 0513, 0557};
        long[] due = {MINUS_ONE - 4, Bench.word(0777773, 0777777), 5, 5, Bench.word(0777777, 0), 0777777};
        for (int i = 0; i < ops.length; i++) {
            for (int ac : new int[] {0, 1, 017}) {
                Bench b = new Bench().put(ac, OLD).put(0300, MINUS_ONE - 4).go(Bench.code(ops[i], ac, 0300));
                Check.same("(E) of OP " + ops[i], b.at(0300), due[i]);
                Check.same("AC " + ac + " of OP " + ops[i], b.at(ac), ac == 0 ? OLD : due[i]);
            }
        }
        Check.same("to E that is accumulator 0", new Bench().put(0, 5).go(Bench.code(0213, 0, 0)).at(0), MINUS_ONE - 4);
    }

    private static void modeThreeOfSums() {
        Check.sentence("3 for sums and logic: source (E), to E and AC");
        int[][] cases = {{0273, 11}, {0277, 5}, {0223, 24}, {0233, 2}, {0437, 013}, {0407, 0}, {0433, 013}};
        for (int[] c : cases) {
            for (int ac : new int[] {0, 1, 017}) {
                Bench b = new Bench().put(ac, 8).put(0300, 3).go(Bench.code(c[0], ac, 0300));
                Check.same("(E) of OP " + c[0], b.at(0300), c[1]);
                Check.same("AC " + ac + " of OP " + c[0], b.at(ac), c[1]);
            }
        }
    }

    private static void placeOfHalves() {
        Check.sentence("the word that is changed is that of the place it goes to: with 0, 1 AC's, with 2, 3 that at E");
        long own = Bench.word(1, 2);
        long word = Bench.word(3, 4);
        Check.same("540", halves(0540, 1, own, word).at(1), Bench.word(1, 4));
        Check.same("541", new Bench().put(1, own).go(Bench.code(0541, 1, 4)).at(1), Bench.word(1, 4));
        Check.same("542", halves(0542, 1, own, word).at(0300), Bench.word(3, 2));
        Check.same("547 of E", halves(0547, 1, own, word).at(0300), Bench.word(3, 3));
        Check.same("547 of AC", halves(0547, 1, own, word).at(1), Bench.word(3, 3));
        Check.same("547 of AC 0", halves(0547, 0, own, word).at(0), own);
        Check.same("500", halves(0500, 1, own, word).at(1), Bench.word(3, 2));
        Check.same("502", halves(0502, 1, own, word).at(0300), Bench.word(1, 4));
        Check.same("507", halves(0507, 1, own, word).at(1), Bench.word(4, 4));
    }

    private static Bench halves(int op, int ac, long own, long word) {
        return new Bench().put(ac, own).put(0300, word).go(Bench.code(op, ac, 0300));
    }

    private static void moveAndSwap() {
        Check.sentence("20m MOVE: source, 20(4+m) with halves changed about");
        for (long word : new long[] {0, LEAST, MOST, Bench.WORD}) {
            moved(0200, word, word, false);
        }
        moved(0204, 0777777, Bench.word(0777777, 0), false);
        moved(0204, Bench.word(0777777, 0), 0777777, false);
        moved(0204, Bench.word(0400000, 1), Bench.word(1, 0400000), false);
        moved(0204, LEAST, 0400000, false);
    }

    /** In the three modes that have a whole word as source. */
    private static void moved(int op, long word, long due, boolean overflow) {
        String what = "OP 0" + Integer.toOctalString(op) + " of 0" + Long.toOctalString(word);
        Bench b = new Bench().put(1, OLD).put(0300, word).go(Bench.code(op, 1, 0300));
        Check.same(what + ", mode 0", b.at(1), due);
        Check.same(what + ", mode 0: OVERFLOW", b.overflow(), overflow);
        b = new Bench().put(1, word).put(0300, OLD).go(Bench.code(op + 2, 1, 0300));
        Check.same(what + ", mode 2", b.at(0300), due);
        Check.same(what + ", mode 2: OVERFLOW", b.overflow(), overflow);
        b = new Bench().put(1, OLD).put(0300, word).go(Bench.code(op + 3, 1, 0300));
        Check.same(what + ", mode 3: E", b.at(0300), due);
        Check.same(what + ", mode 3: AC", b.at(1), due);
        Check.same(what + ", mode 3: OVERFLOW", b.overflow(), overflow);
    }

    private static void negative() {
        Check.sentence("21m less than nothing (0 - source)");
        moved(0210, 0, 0, false);
        moved(0210, 1, MINUS_ONE, false);
        moved(0210, MINUS_ONE, 1, false);
        moved(0210, MOST, LEAST + 1, false);
        moved(0210, LEAST + 1, MOST, false);
    }

    private static void absolute() {
        Check.sentence("21(4+m) its absolute value");
        moved(0214, 0, 0, false);
        moved(0214, 1, 1, false);
        moved(0214, MINUS_ONE, 1, false);
        moved(0214, MOST, MOST, false);
        moved(0214, LEAST + 1, MOST, false);
    }

    private static void leastNumber() {
        Check.sentence("of the least number these two set OVERFLOW and give it");
        moved(0210, LEAST, LEAST, true);
        moved(0214, LEAST, LEAST, true);
        moved(0200, LEAST, LEAST, false);
        moved(0204, 0400000, LEAST, false);
    }

    /** An OP of a C(AC) and a source, in the modes 0, 2 and 3. */
    private static void summed(int op, long own, long source, long due, boolean overflow) {
        for (int mode : new int[] {0, 2, 3}) {
            Bench b = new Bench().put(1, own).put(0300, source).go(Bench.code(op + mode, 1, 0300));
            String what = "OP 0" + Integer.toOctalString(op + mode) + " of 0" + Long.toOctalString(own) + " and 0"
                + Long.toOctalString(source);
            Check.same(what + ": AC", b.at(1), mode == 2 ? own : due);
            Check.same(what + ": E", b.at(0300), mode == 0 ? source : due);
            Check.same(what + ": OVERFLOW", b.overflow(), overflow);
        }
    }

    private static void add() {
        Check.sentence("27m ADD: C(AC) + source; OVERFLOW if the result is not right");
        summed(ADD, MOST - 1, 1, MOST, false);
        summed(ADD, MOST, 1, LEAST, true);
        summed(ADD, MOST, 0, MOST, false);
        summed(ADD, MOST, MOST, MINUS_ONE - 1, true);
        summed(ADD, LEAST + 1, MINUS_ONE, LEAST, false);
        summed(ADD, LEAST, MINUS_ONE, MOST, true);
        summed(ADD, LEAST, LEAST, 0, true);
        summed(ADD, LEAST, MOST, MINUS_ONE, false);
        summed(ADD, MINUS_ONE, 1, 0, false);
        Check.same("the last 271 inside", new Bench().put(1, MOST - 0777777).go(Bench.code(0271, 1, 0777777)).overflow(),
            false);
        Check.same("the first 271 beyond", new Bench().put(1, MOST - 0777776).go(Bench.code(0271, 1, 0777777)).overflow(),
            true);
    }

    private static void subtract() {
        Check.sentence("27(4+m) SUB: C(AC) - source; OVERFLOW if the result is not right");
        summed(SUB, LEAST + 1, 1, LEAST, false);
        summed(SUB, LEAST, 1, MOST, true);
        summed(SUB, MOST - 1, MINUS_ONE, MOST, false);
        summed(SUB, MOST, MINUS_ONE, LEAST, true);
        summed(SUB, MINUS_ONE, LEAST, MOST, false);
        summed(SUB, 0, LEAST, LEAST, true);
        summed(SUB, LEAST, LEAST, 0, false);
        summed(SUB, 0, 1, MINUS_ONE, false);
        Check.same("the last 275 inside", new Bench().put(1, LEAST + 0777777).go(Bench.code(0275, 1, 0777777)).overflow(),
            false);
        Check.same("the first 275 beyond", new Bench().put(1, LEAST + 0777776).go(Bench.code(0275, 1, 0777777)).overflow(),
            true);
    }

    private static long word(long number) {
        return number & Bench.WORD;
    }

    private static void multiply() {
        Check.sentence("22m IMUL: OVERFLOW if the result is not right");
        summed(IMUL, 31, 1108378657L, MOST, false);
        summed(IMUL, 1L << 17, 1L << 18, LEAST, true);
        summed(IMUL, word(-(1L << 17)), 1L << 18, LEAST, false);
        summed(IMUL, 1L << 18, word(-(1L << 17)), LEAST, false);
        summed(IMUL, word(-3), 11453246123L, MOST, true);
        summed(IMUL, word(-(1L << 17)), word(-(1L << 18)), LEAST, true);
        summed(IMUL, LEAST, 1, LEAST, false);
        summed(IMUL, LEAST, MINUS_ONE, LEAST, true);
        summed(IMUL, MINUS_ONE, LEAST, LEAST, true);
        summed(IMUL, MOST, MINUS_ONE, LEAST + 1, false);
        summed(IMUL, LEAST, 0, 0, false);
        summed(IMUL, 0, MOST, 0, false);
    }

    private static void lowestBitsOfProducts() {
        Check.sentence("the lowest 36 bits of the product");
        summed(IMUL, 1L << 18, 1L << 17, LEAST, true);
        summed(IMUL, 1L << 18, 1L << 18, 0, true);
        summed(IMUL, (1L << 18) + 1, 1L << 18, 1L << 18, true);
        summed(IMUL, MOST, MOST, 1, true);
        summed(IMUL, LEAST, LEAST, 0, true);
        summed(IMUL, LEAST, MOST, LEAST, true);
        summed(IMUL, LEAST + 1, LEAST + 1, 1, true);
        summed(IMUL, LEAST, 2, 0, true);
        summed(IMUL, LEAST, 3, LEAST, true);
        summed(IMUL, 3L << 33, 3, word(9L << 33), true);
    }

    private static Bench divided(int ac, long own, long source) {
        return new Bench().put(ac, own).put(0300, source).go(Bench.code(IDIV, ac, 0300));
    }

    private static void divide() {
        Check.sentence("23m IDIV: C(AC) / source");
        summed(IDIV, 6, 3, 2, false);
        summed(IDIV, 5, 6, 0, false);
        summed(IDIV, 6, 6, 1, false);
        summed(IDIV, MOST, 1, MOST, false);
        summed(IDIV, MOST, MINUS_ONE, LEAST + 1, false);
        summed(IDIV, LEAST, 1, LEAST, false);
        summed(IDIV, LEAST + 1, MINUS_ONE, MOST, false);
        summed(IDIV, LEAST, LEAST, 1, false);
        summed(IDIV, MOST, LEAST, 0, false);
        summed(IDIV, LEAST, MOST, MINUS_ONE, false);
        summed(IDIV, 0, LEAST, 0, false);
        summed(IDIV, LEAST, word(-2), 1L << 34, false);
    }

    private static void rest() {
        Check.sentence("the rest (sign of C(AC))");
        long[][] cases = {{7, 3, 2, 1}, {-7, 3, -2, -1}, {7, -3, -2, 1}, {-7, -3, 2, -1}, {6, 3, 2, 0}, {-6, 3, -2, 0},
            {5, 6, 0, 5}, {-5, 6, 0, -5}, {-34359738368L, 34359738367L, -1, -1},
            {34359738367L, -34359738368L, 0, 34359738367L}};
        for (long[] c : cases) {
            Bench b = divided(5, word(c[0]), word(c[1]));
            Check.same(c[0] + " / " + c[1], b.machine.number(5), c[2]);
            Check.same("the rest of " + c[0] + " / " + c[1], b.machine.number(6), c[3]);
        }
    }

    private static void restBehindTheLast() {
        Check.sentence("to the accumulator AC + 1 (behind 017 comes 0)");
        for (int ac : new int[] {0, 016, 017}) {
            Bench b = divided(ac, 23, 5);
            for (int place = 0; place <= 020; place++) {
                long due = place == ac ? 4 : place == (ac == 017 ? 0 : ac + 1) ? 3 : 0;
                Check.same("place " + place + " with AC " + ac, b.at(place), due);
            }
        }
    }

    private static void restOnlyWithAc() {
        Check.sentence("the rest to the accumulator AC + 1, if the quotient goes to AC");
        for (int mode : new int[] {0, 2, 3}) {
            Bench b = new Bench().put(1, 23).put(2, OLD).put(0300, 5).go(Bench.code(IDIV + mode, 1, 0300));
            Check.same("AC + 1 with mode " + mode, b.at(2), mode == 2 ? OLD : 3);
        }
        Check.same("AC + 1 with mode 1", new Bench().put(1, 23).go(Bench.code(0231, 1, 5)).at(2), 3);
        Check.same("behind what goes to E", new Bench().put(1, 23).put(2, 5).go(Bench.code(0233, 1, 2)).at(2), 3);
        Check.same("E alone", new Bench().put(1, 23).put(2, 5).go(Bench.code(0232, 1, 2)).at(2), 4);
    }

    private static void notDivided(String what, int mode, long own, long source) {
        Bench b = new Bench().put(1, own).put(2, OLD).put(0300, source);
        b.go(Bench.code(IDIV + mode, 1, mode == 1 ? source : 0300));
        Check.same(what + ": AC", b.at(1), own);
        Check.same(what + ": AC + 1", b.at(2), OLD);
        Check.same(what + ": (E)", b.at(0300), source);
        Check.same(what + ": OVERFLOW", b.overflow(), true);
        Check.same(what + ": trap", b.trap(), 0);
        Check.same(what + ": PC", b.pc(), Bench.PC + 1);
    }

    private static void divideByZero() {
        Check.sentence("by 0: OVERFLOW, nothing else");
        for (int mode = 0; mode <= 3; mode++) {
            for (long own : new long[] {0, 1, MINUS_ONE, MOST, LEAST}) {
                notDivided("mode " + mode + " of " + own, mode, own, 0);
            }
        }
        Check.same("by 1", divided(1, 5, 1).overflow(), false);
        Check.same("by -1", divided(1, 5, MINUS_ONE).overflow(), false);
    }

    private static void divideLeast() {
        Check.sentence("the least number by -1: OVERFLOW, nothing else");
        for (int mode : new int[] {0, 2, 3}) {
            notDivided("mode " + mode, mode, LEAST, MINUS_ONE);
        }
        Check.same("one more by -1", divided(1, LEAST + 1, MINUS_ONE).overflow(), false);
        Check.same("the least by -2", divided(1, LEAST, MINUS_ONE - 1).overflow(), false);
        Check.same("the least by 1", divided(1, LEAST, 1).overflow(), false);
    }

    /** The pairs (a, s) stand in the lowest bits as 1100 and 1010: a result's bits are (1,1), (1,0), (0,1), (0,0). */
    private static void logicPairs() {
        Check.sentence("f in binary, from the highest of its four bits to the lowest: (0, 0), (0, 1), (1, 0), (1, 1)");
        int[] due = {0, 010, 04, 014, 02, 012, 06, 016, 01, 011, 05, 015, 03, 013, 07, 017};
        for (int f = 0; f < 16; f++) {
            Bench b = new Bench().put(1, 014).put(0300, 012).go(Bench.code(0400 + 4 * f, 1, 0300));
            Check.same("the lowest bits of f " + f, b.at(1) & 017, due[f]);
            Check.same("all higher bits, (0, 0), of f " + f, b.at(1) >> 4, f >= 8 ? Bench.WORD >> 4 : 0);
            b = new Bench().put(1, 014L << 32).put(0300, 012L << 32).go(Bench.code(0400 + 4 * f, 1, 0300));
            Check.same("the highest bits of f " + f, b.at(1) >> 32, due[f]);
        }
    }

    private static void half(int op, long due) {
        Check.same("OP 0" + Integer.toOctalString(op), halves(op, 1, OWN, SOURCE).at(1), due);
    }

    private static void halfThatItGoesTo() {
        Check.sentence("d the half that it goes to (0 left, 1 right), from the same half of the source (x 0) or the other");
        half(0500, Bench.word(0400001, 0222222));
        half(0504, Bench.word(0377776, 0222222));
        half(0540, Bench.word(0111111, 0377776));
        half(0544, Bench.word(0111111, 0400001));
    }

    private static void otherHalfStays() {
        Check.sentence("the other half: e 0 stays");
        half(0500, Bench.word(0400001, 0222222));
        half(0540, Bench.word(0111111, 0377776));
        Bench b = halves(0503, 1, OWN, SOURCE);
        Check.same("503 of its own word", b.at(0300), SOURCE);
    }

    private static void otherHalfZeroOrOnes() {
        Check.sentence("the other half: e 1 becomes 0, 2 all ones");
        half(0510, Bench.word(0400001, 0));
        half(0514, Bench.word(0377776, 0));
        half(0520, Bench.word(0400001, 0777777));
        half(0524, Bench.word(0377776, 0777777));
        half(0550, Bench.word(0, 0377776));
        half(0554, Bench.word(0, 0400001));
        half(0560, Bench.word(0777777, 0377776));
        half(0564, Bench.word(0777777, 0400001));
    }

    private static void otherHalfLikeTheHighestBit() {
        Check.sentence("3 all like the highest bit of the half that was moved");
        half(0530, Bench.word(0400001, 0777777));
        half(0534, Bench.word(0377776, 0));
        half(0570, Bench.word(0, 0377776));
        half(0574, Bench.word(0777777, 0400001));
        Check.same("571 of 0377777", new Bench().put(1, OWN).go(Bench.code(0571, 1, 0377777)).at(1), 0377777);
        Check.same("571 of 0400000", new Bench().put(1, OWN).go(Bench.code(0571, 1, 0400000)).at(1),
            Bench.word(0777777, 0400000));
        Check.same("535 of 0377777", new Bench().put(1, OWN).go(Bench.code(0535, 1, 0377777)).at(1),
            Bench.word(0377777, 0));
        Check.same("535 of 0400000", new Bench().put(1, OWN).go(Bench.code(0535, 1, 0400000)).at(1),
            Bench.word(0400000, 0777777));
    }
}
