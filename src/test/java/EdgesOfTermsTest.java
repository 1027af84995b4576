/** The boundary cases of "Terms", down to the modes: a method for each sentence, in the document's order. */
public final class EdgesOfTermsTest {
    private static final int LOAD = 0200;
    private static final int LOAD_E = 0201;
    private static final int NOTHING = 0300;
    private static final int JRST = 0254;
    private static final int XCT = 0256;

    public static void main(String[] args) {
        wordsAsNumbers();
        storeAndAccumulators();
        sumsOfAddressesWrap();
        execAtFirst();
        addressesInExec();
        accumulatorsInUser();
        lowSegment();
        highSegment();
        anyOtherAddress();
        placesBeyondTheStore();
        pcAtFirst();
        overflowStays();
        fieldsOfInstructions();
        indexNotZero();
        indexRightHalf();
        indirectWord();
        mostWordsForI();
        mostInstructionsByXct();
        mostTogether();
        mostInAStep();
        stepOrder();
        trapEndsAtOnce();
        trapKeepsWhatWasDone();
        trapWord();
        trapGoesOn();
        notListed();
        haltInUser();
        haltInExec();
        overflowWhenMade();
        Check.end();
    }

    private static void wordsAsNumbers() {
        Check.sentence("as numbers they have a sign, from -2 to the 35th on");
        Bench b = new Bench().put(1, Bench.MOST).put(2, Bench.LEAST);
        Check.same("the greatest", b.machine.number(1), 34359738367L);
        Check.same("the least", b.machine.number(2), -34359738368L);
        Check.same("the greatest is not below 0", new Bench().put(1, Bench.MOST).go(Bench.code(0321, 1, 0300)).pc(),
            Bench.PC + 1);
        Check.same("the least is below 0", new Bench().put(1, Bench.LEAST).go(Bench.code(0321, 1, 0300)).pc(), 0300);
    }

    private static void storeAndAccumulators() {
        Check.sentence("STORE: 1024 words (0 to 01777, 0 at first), of which 0 .. 017 are the ACCUMULATORS.");
        for (int ac : new int[] {0, 1, 016, 017}) {
            Bench b = new Bench().go(Bench.code(LOAD_E, ac, 0123));
            for (int place = 0; place <= 020; place++) {
                Check.same("place " + place + " for AC " + ac, b.at(place), place == ac ? 0123 : 0);
            }
        }
        Check.same("the last word", new Bench().put(01777, 5).go(Bench.code(LOAD, 1, 01777)).at(1), 5);
        Check.same("no word behind it", new Bench().go(Bench.code(LOAD, 1, 02000)).trap(), 1);
    }

    private static long address(Bench b, int i, int x, long y) {
        return b.go(Bench.code(LOAD_E, 1, i, x, y)).at(1);
    }

    private static void sumsOfAddressesWrap() {
        Check.sentence("ADDRESSES have 18 bits; sums of them wrap.");
        Check.same("0777776 + 1", address(new Bench().put(3, 1), 0, 3, 0777776), 0777777);
        Check.same("0777777 + 1", address(new Bench().put(3, 1), 0, 3, 0777777), 0);
        Check.same("0777777 + 2", address(new Bench().put(3, 2), 0, 3, 0777777), 1);
        Check.same("0400000 + 0377777", address(new Bench().put(3, 0377777), 0, 3, 0400000), 0777777);
        Check.same("0400000 + 0400000", address(new Bench().put(3, 0400000), 0, 3, 0400000), 0);
        Check.same("0777777 + 0777777", address(new Bench().put(3, 0777777), 0, 3, 0777777), 0777776);
        Bench b = new Bench().put(3, 0777777).put(0177, 5).go(Bench.code(LOAD, 1, 0, 3, 0200));
        Check.same("one below 0200 by an index", b.at(1), 5);
        b = new Bench().put(3, 0777777).put(0200, Bench.word(3, 0)).go(Bench.code(LOAD_E, 1, 1, 0, 0200));
        Check.same("0 + 0777777 in a word for I", b.at(1), 0777777);
        b = new Bench().put(3, 0777777).put(0200, Bench.word(3, 2)).go(Bench.code(LOAD_E, 1, 1, 0, 0200));
        Check.same("2 + 0777777 in a word for I", b.at(1), 1);
    }

    private static void execAtFirst() {
        Check.sentence("MODE: EXEC or USER, EXEC at first.");
        Bench b = new Bench().put(0, Bench.code(LOAD, 1, 01777)).put(01777, 5).on(1);
        Check.same("a place beyond all segments", b.at(1), 5);
        Check.same("no trap", b.trap(), 0);
    }

    private static void addressesInExec() {
        Check.sentence("In EXEC an address is a place of the store.");
        int[][] cases = {{0, 1}, {017, 1}, {020, 1}, {077, 1}, {0100, 1}, {0103, 1}, {01777, 1}, {02000, 0},
            {02020, 0}, {0377777, 0}, {0400000, 0}, {0400007, 0}, {0777777, 0}};
        for (int[] c : cases) {
            for (Way way : Way.values()) {
                Bench b = Bench.withSegments(0400, 0100, 0700, 010);
                Check.same(way + " in EXEC of 0" + Integer.toOctalString(c[0]), way.reaches(b, c[0], false), c[1] == 1);
            }
        }
        Bench b = Bench.withSegments(0400, 0100, 0700, 010).put(050, 5).put(0450, 6).go(Bench.code(LOAD, 1, 050));
        Check.same("not moved by LOW", b.at(1), 5);
    }

    private static void inUser(int lowBase, int lowBound, int highBase, int highBound, int address, boolean due) {
        for (Way way : Way.values()) {
            Bench b = Bench.withSegments(lowBase, lowBound, highBase, highBound);
            Check.same(way + " in USER of 0" + Integer.toOctalString(address) + " with LOW " + lowBase + ", " + lowBound
                + " and HIGH " + highBase + ", " + highBound, way.reaches(b, address, true), due);
        }
    }

    private static void accumulatorsInUser() {
        Check.sentence("In USER: 0 .. 017 are accumulators");
        for (int lowBound : new int[] {0, 1, 017, 020, 01000}) {
            for (int address : new int[] {0, 1, 016, 017}) {
                inUser(0400, lowBound, 0, 0, address, true);
            }
        }
        Bench b = Bench.withSegments(0400, 0100, 0, 0);
        b.put(0, 10).put(017, 11).put(0400, 12).put(0417, 13).put(0420, 14).put(020, 15);
        Check.same("address 0", b.loadedInUser(0), 10);
        Check.same("address 017", b.loadedInUser(017), 11);
        Check.same("address 020", b.loadedInUser(020), 14);
        Check.same("an accumulator beyond the moved store", Bench.withSegments(01777, 0100, 0, 0).put(017, 6)
            .loadedInUser(017), 6);
    }

    private static void lowSegment() {
        Check.sentence("others below LOW bound are at the place address + LOW base");
        inUser(0400, 0100, 0, 0, 077, true);
        inUser(0400, 0100, 0, 0, 0100, false);
        inUser(0400, 017, 0, 0, 020, false);
        inUser(0400, 020, 0, 0, 020, false);
        inUser(0400, 021, 0, 0, 020, true);
        inUser(0400, 021, 0, 0, 021, false);
        inUser(0, 02000, 0, 0, 01777, true);
        inUser(0, 02000, 0, 0, 02000, false);
        Bench b = Bench.withSegments(0400, 0100, 0, 0).put(0420, 5).put(0477, 6);
        Check.same("the first word", b.loadedInUser(020), 5);
        Check.same("the last word", b.loadedInUser(077), 6);
        Check.same("none behind it", b.loadedInUser(0100), -1);
        Check.same("a base of 0", Bench.withSegments(0, 0100, 0, 0).put(077, 7).loadedInUser(077), 7);
    }

    private static void highSegment() {
        Check.sentence("from 0400000 on: address - 0400000 must be below HIGH bound, the place is it + HIGH base");
        inUser(0, 0, 0700, 010, 0377777, false);
        inUser(0, 0, 0700, 010, 0400000, true);
        inUser(0, 0, 0700, 010, 0400007, true);
        inUser(0, 0, 0700, 010, 0400010, false);
        inUser(0, 0, 0700, 0, 0400000, false);
        inUser(0, 0, 0700, 1, 0400000, true);
        inUser(0, 0, 0700, 1, 0400001, false);
        inUser(0, 0, 0, 02000, 0401777, true);
        inUser(0, 0, 0, 02000, 0402000, false);
        Bench b = Bench.withSegments(0, 0, 0700, 010).put(0700, 5).put(0707, 6);
        Check.same("the first word", b.loadedInUser(0400000), 5);
        Check.same("the last word", b.loadedInUser(0400007), 6);
        b = Bench.withSegments(0, 0, 0, 020).put(0, 7).put(017, 8);
        Check.same("a base of 0 has the accumulators", b.loadedInUser(0400000), 7);
        Check.same("all of them", b.loadedInUser(0400017), 8);
    }

    private static void anyOtherAddress() {
        Check.sentence("any other address TRAPS with 1");
        for (int address : new int[] {0100, 0777, 01777, 02000, 0377777, 0400010, 0401777, 0402000, 0777777}) {
            inUser(0400, 0100, 0700, 010, address, false);
        }
    }

    private static void placesBeyondTheStore() {
        Check.sentence("so does, in both modes, a place beyond the store");
        inUser(01757, 0100, 0, 0, 020, true);
        inUser(01757, 0100, 0, 0, 021, false);
        inUser(01760, 0100, 0, 0, 020, false);
        inUser(02000, 0100, 0, 0, 020, false);
        inUser(0, 0, 01770, 0100, 0400007, true);
        inUser(0, 0, 01770, 0100, 0400010, false);
        inUser(0, 0, 01777, 0100, 0400000, true);
        inUser(0, 0, 01777, 0100, 0400001, false);
        inUser(0, 0, 02000, 0100, 0400000, false);
        for (Way way : Way.values()) {
            Check.same(way + " in EXEC of 01777", way.reaches(new Bench(), 01777, false), true);
            Check.same(way + " in EXEC of 02000", way.reaches(new Bench(), 02000, false), false);
        }
    }

    private static void pcAtFirst() {
        Check.sentence("PC: an address (0 at first).");
        Check.same("the first instruction", new Bench().put(0, Bench.code(LOAD_E, 1, 5)).on(1).at(1), 5);
        Check.same("a jump to the last address", new Bench().go(Bench.code(JRST, 0, 0777777)).pc(), 0777777);
    }

    private static void overflowStays() {
        Check.sentence("OVERFLOW: a flag, once set it stays.");
        Bench b = new Bench().put(1, Bench.MOST).put(0100, Bench.code(0340, 1, 0));
        b.put(0101, Bench.code(0271, 2, 4)).put(0102, Bench.code(0340, 2, 0)).put(0103, Bench.code(0240, 2, 1));
        b.put(0104, Bench.code(0221, 2, 3)).put(0105, Bench.code(0231, 2, 3)).put(0106, Bench.code(JRST, 1, 5));
        b.put(5, 0).put(041, Bench.code(JRST, 4, 0)).goFrom(0100, false, 1);
        for (int step = 1; step <= 9; step++) {
            Check.same("OVERFLOW behind step " + step, b.overflow(), true);
            b.on(1);
        }
        Check.same("STOPPED at last", b.machine.look(3), 1);
        Check.same("OVERFLOW when STOPPED", b.overflow(), true);
        Check.same("none where there was none", new Bench().put(1, 5).go(Bench.code(0340, 1, 0)).overflow(), false);
    }

    private static void fieldsOfInstructions() {
        Check.sentence("INSTRUCTION: OP (9 bits), AC (4), I (1), X (4), Y (18), from the left.");
        Check.same("OP 0777", new Bench().go(0777000000000L).trap(), 2);
        Check.same("all bits but those of OP", new Bench().put(017, 0301).put(0300, 5).go(0201777777777L).at(017), 5);
        Check.same("AC 1", new Bench().go(0201040000005L).at(1), 5);
        Check.same("AC 010", new Bench().go(0201400000005L).at(010), 5);
        Check.same("AC 017", new Bench().go(0201740000005L).at(017), 5);
        Check.same("I", new Bench().put(0200, 7).go(0201060000200L).at(1), 7);
        Check.same("X 1", new Bench().put(1, 7).go(0201001000200L).at(0), 0207);
        Check.same("X 017", new Bench().put(017, 7).go(0201017000200L).at(0), 0207);
        Check.same("X 010", new Bench().put(010, 7).go(0201010000200L).at(0), 0207);
        Check.same("Y 0777777", new Bench().go(0201000777777L).at(0), 0777777);
    }

    private static void indexNotZero() {
        Check.sentence("if X is not 0");
        Check.same("X 0", address(new Bench().put(0, 5), 0, 0, 0100), 0100);
        Check.same("X 1", address(new Bench().put(1, 5), 0, 1, 0100), 0105);
        Bench b = new Bench().put(0, 5).put(0200, Bench.word(0, 0100));
        Check.same("X 0 of a word for I", address(b, 1, 0, 0200), 0100);
        Check.same("X 017", address(new Bench().put(017, 5), 0, 017, 0100), 0105);
    }

    private static void indexRightHalf() {
        Check.sentence("the RIGHT half of the word at address X added");
        Check.same("a LEFT half does not count", address(new Bench().put(3, Bench.word(0777777, 0)), 0, 3, 0100), 0100);
        Check.same("the whole RIGHT half", address(new Bench().put(3, Bench.word(1, 0777777)), 0, 3, 0), 0777777);
        Bench b = Bench.withSegments(0400, 0100, 0, 0).put(0403, 9).put(3, 5).put(4, Bench.code(LOAD_E, 1, 0, 3, 0100));
        Check.same("in USER an accumulator too", b.goFrom(4, true, 1).at(1), 0105);
    }

    private static void indirectWord() {
        Check.sentence("if I is 1, the word at E gives I, X and Y anew");
        Check.same("I 0", address(new Bench().put(0200, 5), 0, 0, 0200), 0200);
        Check.same("I 1", address(new Bench().put(0200, 5), 1, 0, 0200), 5);
        Check.same("other bits do not count", address(new Bench().put(0200, 0777740000005L), 1, 0, 0200), 5);
        Check.same("I anew", address(new Bench().put(0200, Bench.indirect(0, 0201)).put(0201, 6), 1, 0, 0200), 6);
        Check.same("X anew", address(new Bench().put(3, 4).put(0200, Bench.word(3, 2)), 1, 0, 0200), 6);
        Check.same("X of the first not again", address(new Bench().put(3, 4).put(0204, 2), 1, 3, 0200), 2);
    }

    /** A chain of so many words with I from the place 0400 on; the last one gives the address at its end. */
    private static Bench chain(Bench b, int from, int length, int end) {
        for (int i = 0; i < length; i++) {
            b.put(from + i, i == length - 1 ? end : Bench.indirect(0, from + i + 1));
        }
        return b;
    }

    private static void mostWordsForI() {
        Check.sentence("The words taken so for I are at most 8 in a step, else TRAP 4.");
        Bench b = chain(new Bench(), 0400, 8, 0321).go(Bench.code(LOAD_E, 1, 1, 0, 0400));
        Check.same("8 words: trap", b.trap(), 0);
        Check.same("8 words: E", b.at(1), 0321);
        b = chain(new Bench(), 0400, 9, 0321).put(1, 7).go(Bench.code(LOAD_E, 1, 1, 0, 0400));
        Check.same("9 words: trap", b.trap(), 4);
        Check.same("9 words: AC", b.at(1), 7);
        Check.same("9 words: place 040", b.at(040), Bench.word(4, Bench.PC));
        b = new Bench().put(0400, Bench.indirect(0, 0400)).go(Bench.code(LOAD_E, 1, 1, 0, 0400));
        Check.same("a word that leads to itself", b.trap(), 4);
    }

    /** So many instructions from the place 0500 on: XCT, each of the next, and at last one that loads. */
    private static Bench executes(Bench b, int length, long last) {
        for (int i = 0; i < length; i++) {
            b.put(0500 + i, i == length - 1 ? last : Bench.code(XCT, 0, 0501 + i));
        }
        return b;
    }

    private static void mostInstructionsByXct() {
        Check.sentence("the instructions taken by XCT are at most 8 in a step, else TRAP 4");
        long load = Bench.code(LOAD_E, 1, 0321);
        Bench b = executes(new Bench(), 8, load).go(Bench.code(XCT, 0, 0500));
        Check.same("8 instructions: trap", b.trap(), 0);
        Check.same("8 instructions: AC", b.at(1), 0321);
        b = executes(new Bench(), 9, load).put(1, 7).go(Bench.code(XCT, 0, 0500));
        Check.same("9 instructions: trap", b.trap(), 4);
        Check.same("9 instructions: AC", b.at(1), 7);
        Check.same("9 instructions: place 040", b.at(040), Bench.word(4, Bench.PC));
        Check.same("XCT of itself", new Bench().go(Bench.code(XCT, 0, Bench.PC)).trap(), 4);
    }

    private static void mostTogether() {
        Check.sentence("at most 8 together in a step, else TRAP 4");
        for (int xcts = 1; xcts <= 7; xcts++) {
            for (int words = 7 - xcts; words <= 9 - xcts; words++) {
                long load = Bench.code(LOAD_E, 1, words == 0 ? 0 : 1, 0, 0400);
                Bench b = executes(chain(new Bench(), 0400, words, 0321), xcts, load).go(Bench.code(XCT, 0, 0500));
                String what = xcts + " instructions and " + words + " words: trap";
                Check.same(what, b.trap(), xcts + words <= 8 ? 0 : 4);
            }
        }
        Bench b = executes(chain(new Bench(), 0400, 7, 0500), 1, Bench.code(LOAD_E, 1, 5));
        Check.same("7 words for the E of XCT", b.go(Bench.code(XCT, 0, 1, 0, 0400)).trap(), 0);
        b = executes(chain(new Bench(), 0400, 8, 0500), 1, Bench.code(LOAD_E, 1, 5));
        Check.same("8 words for the E of XCT", b.go(Bench.code(XCT, 0, 1, 0, 0400)).trap(), 4);
    }

    private static void mostInAStep() {
        Check.sentence("in a step");
        Bench b = chain(new Bench(), 0400, 8, 0321);
        for (int i = 0; i < 5; i++) {
            b.put(Bench.PC + i, Bench.code(LOAD_E, i, 1, 0, 0400));
        }
        b.goFrom(Bench.PC, false, 5);
        Check.same("five steps with 8 words each: traps", b.machine.look(5), 0);
        Check.same("the last one's AC", b.at(4), 0321);
        b = chain(new Bench(), 0400, 9, 0321).put(041, Bench.code(LOAD_E, 1, 1, 0, 0401));
        b.go(Bench.code(LOAD_E, 1, 1, 0, 0400)).on(1);
        Check.same("8 words in the step behind a trap with 4: traps", b.machine.look(5), 1);
        Check.same("its AC", b.at(1), 0321);
    }

    private static void stepOrder() {
        Check.sentence("the instruction at PC is taken, PC becomes 1 more, E is made, it is done");
        Check.same("PC in a PC WORD", new Bench().go(Bench.code(0265, 1, 0300)).at(1), Bench.PC + 1);
        Check.same("the last place as PC", new Bench().put(01777, Bench.code(NOTHING, 0, 0))
            .goFrom(01777, false, 1).pc(), 02000);
        Bench b = new Bench().goFrom(02000, false, 1);
        Check.same("no instruction behind it", b.at(040), Bench.word(1, 02000));
        b = new Bench().put(1, 0100).go(Bench.code(LOAD_E, 1, 0, 1, 5));
        Check.same("E is made before AC changes", b.at(1), 0105);
        b = new Bench().put(1, 0100).go(Bench.code(0344, 1, 0, 1, 5));
        Check.same("E is made before C(AC) grows", b.pc(), 0105);
        b = new Bench().go(Bench.code(0777, 0, 1, 0, 02000));
        Check.same("E is made before an OP that is not listed traps", b.trap(), 1);
    }

    private static void trapEndsAtOnce() {
        Check.sentence("A TRAP with a code ends it at once");
        Bench b = new Bench().put(3, Bench.word(3, 01777)).go(Bench.code(0260, 3, 0300));
        Check.same("PC of a call that trapped", b.pc(), 041);
        b = new Bench().put(01777, 5).put(3, Bench.word(01777, 0300)).put(01000, 6).go(Bench.code(0251, 3, 0302));
        Check.same("no word of a block behind the one that trapped", b.at(0301), 0);
        b = new Bench().put(3, Bench.word(0, 0300)).put(0300, 6).go(Bench.code(0262, 3, 02000));
        Check.same("a stack does not fall behind a trap", b.at(3), Bench.word(0, 0300));
        Check.same("nor sets OVERFLOW", b.overflow(), false);
        b = new Bench().put(3, 9).go(Bench.code(0350, 3, 02000));
        Check.same("nothing to AC behind a trap", b.at(3), 9);
        b = new Bench().goFrom(02000, false, 1);
        Check.same("one trap a step", b.machine.look(5), 1);
        b = new Bench().put(3, 9).go(Bench.code(0230, 3, 02000));
        Check.same("no OVERFLOW by a source that is not there", b.overflow(), false);
        for (int i = 0; i < 2; i++) {
            // A word for I that is not there, or that leads to itself, as the E of JRST.
            int y = i == 0 ? 02000 : Bench.PC;
            int due = i == 0 ? 1 : 4;
            b = new Bench().go(Bench.code(JRST, 4, 1, 0, y));
            Check.same("no HALT behind a trap", b.machine.look(3), 0);
            Check.same("a HALT whose E traps", b.at(040), Bench.word(due, Bench.PC));
            b = new Bench().go(Bench.code(JRST, 1, 1, 0, y));
            Check.same("no USER behind a trap", b.machine.look(1), 0);
            Check.same("a JRST to USER whose E traps", b.at(040), Bench.word(due, Bench.PC));
            Check.same("its PC", b.pc(), 041);
        }
    }

    private static void trapKeepsWhatWasDone() {
        Check.sentence("what was done before stays (but PC as it was when the step began)");
        Bench b = new Bench().put(3, Bench.word(3, 01777)).go(Bench.code(0261, 3, 0300));
        Check.same("a stack that has grown", b.at(3), Bench.word(4, 02000));
        Check.same("PC as it was", b.at(040), Bench.word(1, Bench.PC));
        b = new Bench().put(01777, 5).put(3, Bench.word(01777, 0300)).go(Bench.code(0251, 3, 0302));
        Check.same("a word of a block", b.at(0300), 5);
        b = new Bench().put(0300, Bench.pointer(6, 6, 0, 0, 02000)).go(Bench.code(0134, 1, 0300));
        Check.same("a pointer that went on", b.at(0300), Bench.pointer(0, 6, 0, 0, 02000));
        b = new Bench().put(01776, 5).put(01777, 6).put(3, Bench.word(01776, 040)).go(Bench.code(0251, 3, 0777));
        Check.same("place 040 becomes the word of the trap all the same", b.at(040), Bench.word(1, Bench.PC));
        Check.same("place 041 stays what it became", b.at(041), 6);
        b = new Bench().put(0300, Bench.code(LOAD, 1, 02000)).go(Bench.code(XCT, 0, 0300));
        Check.same("PC of an XCT", b.at(040), Bench.word(1, Bench.PC));
    }

    /** A step at accumulator 4 that traps with a code, after one that sets OVERFLOW or does not. */
    private static Bench trapped(boolean overflow, boolean user, long instruction) {
        return new Bench().put(1, overflow ? Bench.MOST : 0).put(3, Bench.code(0340, 1, 0)).put(4, instruction)
            .put(040, Bench.WORD).goFrom(3, user, 2);
    }

    private static void trapWord() {
        Check.sentence("place 040 becomes: LEFT half: 0400000 if OVERFLOW, and 010000 if USER, and the code; RIGHT: PC");
        long[][] cases = {{1, Bench.code(LOAD, 2, 02000)}, {2, Bench.code(0777, 0, 0)}, {4, Bench.code(XCT, 0, 4)}};
        for (long[] c : cases) {
            Check.same("EXEC, code " + c[0], trapped(false, false, c[1]).at(040), Bench.word(c[0], 4));
            Check.same("USER, code " + c[0], trapped(false, true, c[1]).at(040), Bench.word(010000 + c[0], 4));
            Check.same("EXEC, OVERFLOW, code " + c[0], trapped(true, false, c[1]).at(040), Bench.word(0400000 + c[0], 4));
            Check.same("USER, OVERFLOW, code " + c[0], trapped(true, true, c[1]).at(040), Bench.word(0410000 + c[0], 4));
            Check.same("look(6) of code " + c[0], trapped(true, true, c[1]).machine.look(6), c[0]);
        }
        Check.same("PC 0777777", new Bench().goFrom(0777777, true, 1).at(040), Bench.word(010001, 0777777));
        Check.same("PC 0", new Bench().goFrom(0, true, 1).at(040), Bench.word(010002, 0));
        Bench b = Bench.withSegments(0400, 0100, 0, 0).put(0440, 5).goFrom(02000, true, 1);
        Check.same("the place, not the user's address 040", b.at(0440), 5);
        Check.same("place 040", b.at(040), Bench.word(010001, 02000));
    }

    private static void trapGoesOn() {
        Check.sentence("MODE EXEC, PC 041");
        for (boolean user : new boolean[] {false, true}) {
            Bench b = Bench.withSegments(0400, 0100, 0, 0).put(041, Bench.code(LOAD_E, 5, 6));
            b.put(0441, Bench.code(LOAD_E, 5, 7)).goFrom(02000, user, 1);
            Check.same("MODE", b.machine.look(1), 0);
            Check.same("PC", b.pc(), 041);
            Check.same("not STOPPED", b.machine.look(3), 0);
            b.on(1);
            Check.same("the next step is that of place 041", b.at(5), 6);
            Check.same("PC behind it", b.pc(), 042);
        }
    }

    /** OPs that are listed beside those that are not, on both sides of each border. */
    private static void notListed() {
        Check.sentence("An OP that is not listed: TRAP 2");
        int[] listed = {0133, 0137, 0200, 0217, 0220, 0223, 0230, 0233, 0240, 0242, 0250, 0254, 0256, 0260, 0265, 0270,
            0277, 0300, 0377, 0400, 0477, 0500, 0577, 0600, 0677};
        int[] others = {0, 1, 077, 0100, 0132, 0140, 0177, 0224, 0227, 0234, 0237, 0243, 0247, 0255, 0257, 0266, 0267,
            0700, 0777};
        for (int op : listed) {
            Bench b = new Bench().put(0300, Bench.pointer(6, 6, 0, 0, 0301)).go(Bench.code(op, 0, 0300));
            Check.same("trap of OP 0" + Integer.toOctalString(op), b.trap(), op == XCT ? 2 : 0);
        }
        for (int op : others) {
            Bench b = new Bench().put(1, 5).put(2, 6).put(0300, 7).go(Bench.code(op, 1, 0300));
            String what = " of OP 0" + Integer.toOctalString(op);
            Check.same("trap" + what, b.trap(), 2);
            Check.same("place 040" + what, b.at(040), Bench.word(2, Bench.PC));
            Check.same("AC" + what, b.at(1), 5);
            Check.same("AC + 1" + what, b.at(2), 6);
            Check.same("(E)" + what, b.at(0300), 7);
        }
    }

    private static void haltInUser() {
        Check.sentence("HALT (JRST with AC 4): in USER TRAP 2");
        Bench b = new Bench().put(5, Bench.code(JRST, 4, 0300)).put(041, Bench.code(NOTHING, 0, 0));
        b.machine.start(5, true);
        Check.same("run(2)", b.machine.run(2), 2);
        Check.same("trap", b.trap(), 2);
        Check.same("place 040", b.at(040), Bench.word(010002, 5));
        Check.same("not STOPPED", b.machine.look(3), 0);
        Check.same("PC", b.pc(), 042);
    }

    private static void haltInExec() {
        Check.sentence("in EXEC the machine is STOPPED at PC = E");
        for (int e : new int[] {0, 0300, 01777, 02000, 0777777}) {
            Bench b = new Bench().go(Bench.code(JRST, 4, e));
            Check.same("STOPPED", b.machine.look(3), 1);
            Check.same("PC", b.pc(), e);
            Check.same("trap", b.trap(), 0);
            Check.same("steps", b.machine.look(4), 1);
        }
        Check.same("E by X", new Bench().put(3, 5).go(Bench.code(JRST, 4, 0, 3, 0777777)).pc(), 4);
    }

    private static void overflowWhenMade() {
        Check.sentence("OVERFLOW is set when a result is made.");
        Bench b = new Bench().put(3, Bench.LEAST).go(Bench.code(0212, 3, 02000));
        Check.same("212 to a place that traps", b.at(040), Bench.word(0400001, Bench.PC));
        Check.same("OVERFLOW of it", b.overflow(), true);
        b = new Bench().put(3, Bench.LEAST).go(Bench.code(0216, 3, 02000));
        Check.same("216 to a place that traps", b.at(040), Bench.word(0400001, Bench.PC));
        b = new Bench().put(3, Bench.LEAST + 1).go(Bench.code(0212, 3, 02000));
        Check.same("no OVERFLOW of another number", b.at(040), Bench.word(1, Bench.PC));
        b = new Bench().put(3, Bench.MOST).go(Bench.code(0270, 3, 02000));
        Check.same("no result of a sum whose source traps", b.at(040), Bench.word(1, Bench.PC));
        b = new Bench().put(3, Bench.word(0777777, 01777)).go(Bench.code(0260, 3, 0300));
        Check.same("a stack that has grown to 0", b.at(040), Bench.word(0400001, Bench.PC));
    }
}
