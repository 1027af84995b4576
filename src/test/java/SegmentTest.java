/** Promise 5, and the addresses of USER. */
public final class SegmentTest {
    private static final int LOAD = 0200;
    private static final int STORE = 0202;

    public static void main(String[] args) {
        refusals();
        refusedChangesNothing();
        lowSegment();
        highSegment();
        accumulatorsAreNotMoved();
        placesBeyondTheStore();
        execIsNotMoved();
        everyAddressFollowsTheSegments();
        Check.end();
    }

    private static void refusals() {
        WordMachine x = new WordMachine();
        for (int which = 0; which <= 1; which++) {
            for (int good : new int[] {0, 1, 512, 1023, 1024}) {
                Check.same("segment with base " + good, x.segment(which, good, 0), true);
                Check.same("segment with bound " + good, x.segment(which, 0, good), true);
            }
            for (int bad : new int[] {-1, 1025, Integer.MIN_VALUE, Integer.MAX_VALUE}) {
                Check.same("segment with base " + bad, x.segment(which, bad, 0), false);
                Check.same("segment with bound " + bad, x.segment(which, 0, bad), false);
            }
        }
        for (int which : new int[] {-1, 2, Integer.MIN_VALUE, Integer.MAX_VALUE}) {
            Check.same("segment " + which, x.segment(which, 0, 0), false);
        }
    }

    private static void refusedChangesNothing() {
        Bench b = Bench.withSegments(256, 64, 512, 8);
        b.machine.segment(0, 300, 1025);
        b.machine.segment(0, 1025, 10);
        b.machine.segment(1, -1, 10);
        b.machine.segment(1, 100, -1);
        b.machine.segment(2, 0, 0);
        b.put(256 + 077, 5).put(512 + 7, 6);
        Check.same("low word after refusals", loaded(b, 077), 5);
        Check.same("high word after refusals", loaded(b, 0400007), 6);
    }

    /** What a step in USER loads from an address; -1 if it traps with 1. */
    private static long loaded(Bench b, int address) {
        long answer = b.loadedInUser(address);
        if (answer == -1) {
            Check.same("trap at " + address, b.machine.look(6), 1);
            Check.same("word of the trap at " + address, b.at(040), Bench.word(010001, 4));
        }
        return answer;
    }

    private static boolean stores(Bench b, int address, int place) {
        b.put(place, 0).put(1, 0424242).put(4, Bench.code(STORE, 1, address)).goFrom(4, true, 1);
        return b.at(place) == 0424242;
    }

    private static void lowSegment() {
        Bench b = Bench.withSegments(256, 64, 0, 0);
        b.put(256 + 020, 1).put(256 + 077, 2).put(256 + 0100, 3).put(256 + 017, 4);
        Check.same("the least low word", loaded(b, 020), 1);
        Check.same("the last low word", loaded(b, 077), 2);
        Check.same("behind the low bound", loaded(b, 0100), -1);
        Check.same("below high, not low", loaded(b, 0377777), -1);
        Check.same("store to the last low word", stores(b, 077, 256 + 077), true);
        Check.same("store behind the low bound", stores(b, 0100, 256 + 0100), false);
        b.machine.segment(0, 256, 020);
        Check.same("a low bound of 020", loaded(b, 020), -1);
        b.machine.segment(0, 256, 021);
        Check.same("a low bound of 021", loaded(b, 020), 1);
        b.machine.segment(0, 0, 1024);
        b.put(01777, 7);
        Check.same("a low bound of 1024", loaded(b, 01777), 7);
        Check.same("behind a low bound of 1024", loaded(b, 02000), -1);
    }

    private static void highSegment() {
        Bench b = Bench.withSegments(0, 0, 512, 8);
        b.put(512, 1).put(512 + 7, 2).put(512 + 8, 3);
        Check.same("the first high word", loaded(b, 0400000), 1);
        Check.same("the last high word", loaded(b, 0400007), 2);
        Check.same("behind the high bound", loaded(b, 0400010), -1);
        Check.same("the last address", loaded(b, 0777777), -1);
        Check.same("store to the first high word", stores(b, 0400000, 512), true);
        Check.same("store to the last high word", stores(b, 0400007, 512 + 7), true);
        Check.same("store behind the high bound", stores(b, 0400010, 512 + 8), false);
        b.machine.segment(1, 512, 0);
        Check.same("a high bound of 0", loaded(b, 0400000), -1);
    }

    private static void accumulatorsAreNotMoved() {
        Bench b = Bench.withSegments(256, 64, 0, 20);
        for (int a = 5; a <= 017; a++) {
            b.put(a, 0100 + a).put(256 + a, 0200 + a);
            Check.same("accumulator " + a, loaded(b, a), 0100 + a);
            Check.same("accumulator by the high segment " + a, loaded(b, 0400000 + a), 0100 + a);
        }
        b.machine.segment(0, 256, 0);
        Check.same("an accumulator without a low segment", loaded(b, 017), 0100 + 017);
        Check.same("no other address", loaded(b, 020), -1);
    }

    private static void placesBeyondTheStore() {
        Bench b = Bench.withSegments(1000, 64, 1000, 64);
        b.put(1023, 5);
        Check.same("the last place by low", loaded(b, 23), 5);
        Check.same("beyond the store by low", loaded(b, 24), -1);
        Check.same("the last place by high", loaded(b, 0400000 + 23), 5);
        Check.same("beyond the store by high", loaded(b, 0400000 + 24), -1);
        b.machine.segment(1, 1024, 1024);
        Check.same("a base of 1024", loaded(b, 0400000), -1);
    }

    private static void execIsNotMoved() {
        Bench b = Bench.withSegments(256, 64, 512, 8).put(030, 7).put(256 + 030, 8).go(Bench.code(LOAD, 1, 030));
        Check.same("EXEC below the low bound", b.at(1), 7);
        Check.same("EXEC above the low bound", b.put(01777, 9).go(Bench.code(LOAD, 1, 01777)).at(1), 9);
        Check.same("no trap in EXEC", b.trap(), 0);
        b.go(Bench.code(LOAD, 1, 0400000));
        Check.same("trap at 0400000 in EXEC", b.trap(), 1);
        Check.same("its word", b.at(040), Bench.word(1, Bench.PC));
        b.go(Bench.code(LOAD, 1, 02000));
        Check.same("traps in EXEC", b.machine.look(5), 2);
    }

    /** Instructions, words for I, stacks, blocks and bytes all lie where the segments say. */
    private static void everyAddressFollowsTheSegments() {
        Bench b = Bench.withSegments(256, 128, 512, 16);
        b.put(256 + 040, Bench.code(LOAD, 1, 1, 0, 050)).put(256 + 050, 0400003).put(512 + 3, 077);
        Check.same("by I", b.goFrom(040, true, 1).at(1), 077);
        b.put(2, Bench.word(0, 0400004)).put(256 + 041, Bench.code(0261, 2, 0400003)).on(1);
        Check.same("stack", b.at(512 + 5), 077);
        b.put(3, Bench.word(0400003, 060)).put(256 + 042, Bench.code(0251, 3, 062)).on(1);
        Check.same("block", b.at(256 + 062), 077);
        b.put(256 + 070, Bench.pointer(0, 3, 0, 0, 0400003)).put(256 + 043, Bench.code(0135, 5, 070)).on(1);
        Check.same("byte", b.at(5), 7);
        b.put(256 + 044, Bench.code(0256, 0, 0400006)).put(512 + 6, Bench.code(0201, 6, 4)).on(1);
        Check.same("XCT", b.at(6), 4);
        b.put(256 + 045, Bench.code(0264, 0, 0400007)).on(1);
        Check.same("PC WORD", b.at(512 + 7), Bench.word(010000, 046));
        Check.same("PC", b.pc(), 0400010);
        Check.same("no trap", b.trap(), 0);
    }
}
