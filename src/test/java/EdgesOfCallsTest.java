/** The boundary cases of promises 1 to 8: a method for each sentence, in the document's order. */
public final class EdgesOfCallsTest {
    private static final int NOTHING = 0300;
    private static final int HALT = 0254;

    public static void main(String[] args) {
        Twins.checkStates();
        lastCall();
        newWords();
        newPc();
        newSegments();
        depositPlaces();
        depositLowestBits();
        depositRefused();
        examinePlaces();
        examineRange();
        numberSign();
        numberPlaces();
        segmentWhich();
        segmentBase();
        segmentBound();
        segmentSetsBoth();
        othersStayStopped();
        segmentRefused();
        startPc();
        startMode();
        startAfterHalt();
        startOverflow();
        startKeepsTheRest();
        runSteps();
        runFewer();
        runWhenStopped();
        runRefused();
        lookPc();
        lookFlags();
        lookCounts();
        lookLatestTrap();
        lookCountsAndStart();
        lookOther();
        Check.end();
    }

    private static void lastCall() {
        Check.sentence("An object is used for at most 512 calls after it has been made");
        WordMachine x = new WordMachine();
        for (int call = 1; call <= 511; call++) {
            x.deposit(call, call);
        }
        Check.same("the 512th call, examine(511)", x.examine(511), 511);
        x = new WordMachine();
        for (int call = 1; call <= 511; call++) {
            Check.same("call " + call + ", run(100)", x.run(100), 100);
        }
        Check.same("the 512th call, look(4)", x.look(4), 51100);
    }

    private static void newWords() {
        Check.sentence("All words 0");
        for (int place : new int[] {0, 017, 020, 040, 041, 01776, 01777}) {
            Check.same("examine(" + place + ")", new WordMachine().examine(place), 0);
        }
        Check.same("examine(1024), which is none", new WordMachine().examine(1024), -1);
    }

    private static void newPc() {
        Check.sentence("PC 0, EXEC");
        WordMachine x = new WordMachine();
        Check.same("look(0)", x.look(0), 0);
        Check.same("look(1)", x.look(1), 0);
        Check.same("run(1)", x.run(1), 1);
        Check.same("the word of the trap at PC 0 in EXEC", x.examine(040), Bench.word(2, 0));
    }

    private static void newSegments() {
        Check.sentence("both segments with base and bound 0");
        Check.same("the last accumulator", new Bench().put(017, 5).loadedInUser(017), 5);
        Check.same("the first address of LOW", new Bench().loadedInUser(020), -1);
        Check.same("the first address of HIGH", new Bench().loadedInUser(0400000), -1);
    }

    private static void depositPlaces() {
        Check.sentence("Sets a place of the store: true; false (refused) if there is none such.");
        for (int place : new int[] {0, 1, 1022, 1023}) {
            WordMachine x = new WordMachine();
            Check.same("deposit(" + place + ")", x.deposit(place, 5), true);
            Check.same("examine(" + place + ")", x.examine(place), 5);
            Check.same("the place before", x.examine(place - 1), place == 0 ? -1 : 0);
            Check.same("the place behind", x.examine(place + 1), place == 1023 ? -1 : 0);
        }
        for (int place : new int[] {-1, 1024, -1024, 2048, Integer.MIN_VALUE, Integer.MAX_VALUE}) {
            Check.same("deposit(" + place + ")", new WordMachine().deposit(place, 5), false);
        }
    }

    private static void depositLowestBits() {
        Check.sentence("to the lowest 36 bits of a number");
        long[][] cases = {
            {0, 0}, {0777777777777L, 0777777777777L}, {01000000000000L, 0}, {01000000000005L, 5}, {-1, 0777777777777L},
            {-0400000000000L, 0400000000000L}, {-0400000000001L, 0377777777777L}, {-01000000000000L, 0},
            {Long.MAX_VALUE, 0777777777777L}, {Long.MIN_VALUE, 0}};
        for (long[] c : cases) {
            WordMachine x = new WordMachine();
            Check.same("deposit(7, " + c[0] + ")", x.deposit(7, c[0]), true);
            Check.same("examine(7) of " + c[0], x.examine(7), c[1]);
        }
    }

    private static void depositRefused() {
        Check.sentence("deposit: What is refused changes nothing.");
        for (int place : new int[] {-1, 1024, Integer.MIN_VALUE, Integer.MAX_VALUE}) {
            Twins.unchanged("deposit(" + place + ", 9)", x -> x.deposit(place, 9));
        }
    }

    private static void examinePlaces() {
        Check.sentence("The word at a place of the store; -1 if there is none such.");
        WordMachine x = new WordMachine();
        x.deposit(0, 5);
        x.deposit(1023, 6);
        Check.same("examine(0)", x.examine(0), 5);
        Check.same("examine(1023)", x.examine(1023), 6);
        for (int place : new int[] {-1, 1024, -1024, Integer.MIN_VALUE, Integer.MAX_VALUE}) {
            Check.same("examine(" + place + ")", x.examine(place), -1);
        }
        Twins.unchanged("examine(-1)", y -> y.examine(-1));
        Twins.unchanged("examine(1024)", y -> y.examine(1024));
    }

    private static void examineRange() {
        Check.sentence("0 to 2 to the 36th - 1");
        WordMachine x = new WordMachine();
        x.deposit(9, 68719476735L);
        Check.same("the greatest word", x.examine(9), 68719476735L);
        x.deposit(9, 34359738368L);
        Check.same("the word of the sign alone", x.examine(9), 34359738368L);
        x.deposit(9, 0);
        Check.same("the least word", x.examine(9), 0);
    }

    private static void numberSign() {
        Check.sentence("The word at a place as a number with a sign");
        long[][] cases = {{0, 0}, {1, 1}, {34359738367L, 34359738367L}, {34359738368L, -34359738368L},
            {34359738369L, -34359738367L}, {68719476735L, -1}};
        for (long[] c : cases) {
            WordMachine x = new WordMachine();
            x.deposit(9, c[0]);
            Check.same("number(9) of " + c[0], x.number(9), c[1]);
        }
    }

    private static void numberPlaces() {
        Check.sentence("The word at a place as a number; 0 if there is none such.");
        WordMachine x = new WordMachine();
        x.deposit(0, -5);
        x.deposit(1023, -6);
        Check.same("number(0)", x.number(0), -5);
        Check.same("number(1023)", x.number(1023), -6);
        for (int place : new int[] {-1, 1024, -1024, Integer.MIN_VALUE, Integer.MAX_VALUE}) {
            Check.same("number(" + place + ")", x.number(place), 0);
        }
        Twins.unchanged("number(-1)", y -> y.number(-1));
        Twins.unchanged("number(1024)", y -> y.number(1024));
    }

    private static void segmentWhich() {
        Check.sentence("Sets base and bound of the LOW (0) or HIGH (1) segment: true; false if there is none such");
        Bench b = new Bench().put(0320, 5).put(0300, 6);
        Check.same("segment(0, ..)", b.machine.segment(0, 0300, 021), true);
        Check.same("LOW is set", b.loadedInUser(020), 5);
        Check.same("HIGH is not", b.loadedInUser(0400000), -1);
        b = new Bench().put(0320, 5).put(0300, 6);
        Check.same("segment(1, ..)", b.machine.segment(1, 0300, 021), true);
        Check.same("HIGH is set", b.loadedInUser(0400000), 6);
        Check.same("LOW is not", b.loadedInUser(020), -1);
        for (int which : new int[] {-1, 2, 3, Integer.MIN_VALUE, Integer.MAX_VALUE}) {
            Check.same("segment(" + which + ", ..)", new WordMachine().segment(which, 0, 0), false);
        }
    }

    private static void segmentBase() {
        Check.sentence("refused, if base is not 0 .. 1024");
        for (int which = 0; which <= 1; which++) {
            for (int base : new int[] {0, 1, 1023, 1024}) {
                Check.same("base " + base, new WordMachine().segment(which, base, 5), true);
            }
            for (int base : new int[] {-1, 1025, Integer.MIN_VALUE, Integer.MAX_VALUE}) {
                Check.same("base " + base, new WordMachine().segment(which, base, 5), false);
            }
        }
    }

    private static void segmentBound() {
        Check.sentence("refused, if bound is not 0 .. 1024");
        for (int which = 0; which <= 1; which++) {
            for (int bound : new int[] {0, 1, 1023, 1024}) {
                Check.same("bound " + bound, new WordMachine().segment(which, 5, bound), true);
            }
            for (int bound : new int[] {-1, 1025, Integer.MIN_VALUE, Integer.MAX_VALUE}) {
                Check.same("bound " + bound, new WordMachine().segment(which, 5, bound), false);
            }
        }
    }

    /** With the greatest base no place is left, with the base before it but the first one of HIGH. */
    private static void segmentSetsBoth() {
        Check.sentence("Sets base and bound");
        Bench b = new Bench().put(01777, 7);
        b.machine.segment(1, 1023, 1024);
        Check.same("the last place by a base of 1023", b.loadedInUser(0400000), 7);
        Check.same("beyond it", b.loadedInUser(0400001), -1);
        b.machine.segment(1, 1024, 1024);
        Check.same("no place by a base of 1024", b.loadedInUser(0400000), -1);
        b.machine.segment(1, 0, 1024);
        Check.same("the last place by a bound of 1024", b.loadedInUser(0401777), 7);
        Check.same("beyond it", b.loadedInUser(0402000), -1);
        b.machine.segment(1, 0, 1023);
        Check.same("the last place by a bound of 1023", b.loadedInUser(0401777), -1);
        b.machine.segment(0, 0, 1024);
        Check.same("the last place by LOW", b.loadedInUser(01777), 7);
        b.machine.segment(0, 0, 1023);
        Check.same("the last place by a bound of 1023 of LOW", b.loadedInUser(01777), -1);
        b.machine.segment(0, 1023 - 020, 1024);
        Check.same("the last place by a base of LOW", b.loadedInUser(020), 7);
        Check.same("beyond it", b.loadedInUser(021), -1);
    }

    private static void othersStayStopped() {
        Check.sentence("start: the machine is not STOPPED any more (by no other call)");
        Bench b = new Bench().put(1, Bench.MOST).put(0100, Bench.code(0340, 1, 0)).put(0101, Bench.code(HALT, 4, 0300));
        b.goFrom(0100, false, 2);
        b.machine.deposit(0300, Bench.code(NOTHING, 0, 0));
        b.machine.segment(0, 0400, 0100);
        b.machine.segment(1, 0700, 010);
        flags("behind deposit and segment", b, 0, 1, 1);
        counts("behind deposit and segment", b, 2, 0, 0);
        Check.same("PC", b.pc(), 0300);
        Check.same("run(1)", b.machine.run(1), 0);
    }

    private static void segmentRefused() {
        Check.sentence("segment: What is refused changes nothing.");
        int[][] cases = {{-1, 0, 0}, {2, 0, 0}, {-1, 0400, 01000}, {2, 0400, 01000}};
        for (int[] c : cases) {
            refusedSegment(c[0], c[1], c[2]);
        }
        for (int which = 0; which <= 1; which++) {
            for (int bad : new int[] {-1, 1025, Integer.MIN_VALUE, Integer.MAX_VALUE}) {
                refusedSegment(which, bad, 01000);
                refusedSegment(which, 0300, bad);
            }
        }
    }

    private static void refusedSegment(int which, int base, int bound) {
        Twins.unchanged("segment(" + which + ", " + base + ", " + bound + ")", x -> x.segment(which, base, bound));
    }

    private static void startPc() {
        Check.sentence("Sets PC (its lowest 18 bits)");
        int[][] cases = {{0, 0}, {1, 1}, {0777777, 0777777}, {01000000, 0}, {01000001, 1}, {01777777, 0777777},
            {-1, 0777777}, {-01000000, 0}, {Integer.MIN_VALUE, 0}, {Integer.MAX_VALUE, 0777777}};
        for (int[] c : cases) {
            WordMachine x = new WordMachine();
            x.start(c[0], false);
            Check.same("PC of start(" + c[0] + ")", x.look(0), c[1]);
        }
        Bench b = new Bench().put(0123, Bench.code(NOTHING, 0, 0)).goFrom(05000123, false, 1);
        Check.same("the step after start(05000123)", b.pc(), 0124);
    }

    private static void startMode() {
        Check.sentence("Sets MODE");
        WordMachine x = new WordMachine();
        x.start(0, true);
        Check.same("USER", x.look(1), 1);
        x.start(0, true);
        Check.same("USER still", x.look(1), 1);
        x.start(0, false);
        Check.same("EXEC", x.look(1), 0);
    }

    private static void startAfterHalt() {
        Check.sentence("the machine is not STOPPED any more");
        for (boolean user : new boolean[] {false, true}) {
            Bench b = new Bench().go(Bench.code(HALT, 4, 0300));
            Check.same("STOPPED", b.machine.look(3), 1);
            b.put(5, Bench.code(NOTHING, 0, 0)).machine.start(5, user);
            Check.same("not STOPPED", b.machine.look(3), 0);
            Check.same("run(1)", b.machine.run(1), 1);
            Check.same("PC", b.pc(), 6);
        }
    }

    private static void startOverflow() {
        Check.sentence("OVERFLOW is not set");
        Bench b = new Bench().put(1, Bench.MOST).go(Bench.code(0340, 1, 0));
        Check.same("OVERFLOW before", b.overflow(), true);
        b.machine.start(5, false);
        Check.same("OVERFLOW after", b.overflow(), false);
        b.put(5, Bench.code(0265, 2, 7)).on(1);
        Check.same("nor in the next PC WORD", b.at(2), 6);
    }

    private static void startKeepsTheRest() {
        Check.sentence("the store and both segments stay");
        Bench b = Bench.withSegments(0400, 0100, 0700, 010);
        b.put(0, 1).put(017, 2).put(040, 3).put(01777, 4).put(0477, 5).put(0707, 6);
        b.machine.start(0100, true);
        b.machine.start(0, false);
        Check.same("place 0", b.at(0), 1);
        Check.same("place 017", b.at(017), 2);
        Check.same("place 040", b.at(040), 3);
        Check.same("place 01777", b.at(01777), 4);
        Check.same("the last word of LOW", b.loadedInUser(077), 5);
        Check.same("the last word of HIGH", b.loadedInUser(0400007), 6);
        Check.same("behind LOW", b.loadedInUser(0100), -1);
        Check.same("behind HIGH", b.loadedInUser(0400010), -1);
    }

    /** The words 0100 to 0400 do nothing. */
    private static Bench idle() {
        return new Bench().put(0100, Bench.code(NOTHING, 0, 0)).put(1, Bench.word(0100, 0101))
            .put(2, Bench.code(0251, 1, 0400)).goFrom(2, false, 1);
    }

    private static void runSteps() {
        Check.sentence("Makes n steps: how many");
        for (int n : new int[] {1, 2, 99, 100}) {
            Bench b = idle();
            b.machine.start(0100, false);
            Check.same("run(" + n + ")", b.machine.run(n), n);
            Check.same("PC after run(" + n + ")", b.pc(), 0100 + n);
            Check.same("steps after run(" + n + ")", b.machine.look(4), 1 + n);
        }
        Bench b = idle();
        b.machine.start(0100, false);
        Check.same("run(100)", b.machine.run(100), 100);
        Check.same("run(1) behind it", b.machine.run(1), 1);
        Check.same("PC behind 101 steps", b.pc(), 0100 + 101);
        Check.same("run of steps that trap", new WordMachine().run(100), 100);
    }

    private static void runFewer() {
        Check.sentence("or fewer if it is STOPPED");
        int[][] cases = {{1, 1, 1}, {2, 1, 1}, {2, 2, 2}, {100, 1, 1}, {100, 99, 99}, {100, 100, 100}, {99, 100, 99}};
        for (int[] c : cases) {
            Bench b = idle().put(0100 + c[1] - 1, Bench.code(HALT, 4, 0234567));
            b.machine.start(0100, false);
            String what = "run(" + c[0] + ") with a HALT as step " + c[1];
            Check.same(what, b.machine.run(c[0]), c[2]);
            boolean stops = c[1] <= c[0];
            Check.same(what + ": STOPPED", b.machine.look(3), stops ? 1 : 0);
            Check.same(what + ": PC", b.pc(), stops ? 0234567 : 0100 + c[0]);
            Check.same(what + ": steps", b.machine.look(4), 1 + c[2]);
        }
    }

    private static void runWhenStopped() {
        Check.sentence("(0, if it was)");
        for (int n : new int[] {1, 2, 100}) {
            Bench b = new Bench().put(0300, Bench.code(NOTHING, 0, 0)).go(Bench.code(HALT, 4, 0300));
            Check.same("run(" + n + ")", b.machine.run(n), 0);
            Check.same("PC", b.pc(), 0300);
            Check.same("steps", b.machine.look(4), 1);
            Check.same("still STOPPED", b.machine.look(3), 1);
            Check.same("run(" + n + ") again", b.machine.run(n), 0);
        }
    }

    private static void runRefused() {
        Check.sentence("-1 (refused) if n is not 1 .. 100");
        for (int n : new int[] {0, 101, -1, -100, Integer.MIN_VALUE, Integer.MAX_VALUE}) {
            Check.same("run(" + n + ")", new WordMachine().run(n), -1);
            Check.same("run(" + n + ") when STOPPED", new Bench().go(Bench.code(HALT, 4, 0)).machine.run(n), -1);
            Twins.unchanged("run(" + n + ")", x -> x.run(n));
        }
        Check.same("run(1)", new WordMachine().run(1), 1);
        Check.same("run(100)", new WordMachine().run(100), 100);
    }

    private static void lookPc() {
        Check.sentence("PC (what = 0)");
        WordMachine x = new WordMachine();
        for (int pc : new int[] {0, 1, 01777, 02000, 0400000, 0777777}) {
            x.start(pc, false);
            Check.same("look(0)", x.look(0), pc);
        }
    }

    private static void lookFlags() {
        Check.sentence("1 in USER, else 0 (1), 1 if OVERFLOW (2), 1 if STOPPED (3)");
        Bench b = new Bench();
        flags("new", b, 0, 0, 0);
        b.machine.start(3, true);
        flags("in USER", b, 1, 0, 0);
        b.put(1, Bench.MOST).put(3, Bench.code(0340, 1, 0)).on(1);
        flags("with OVERFLOW", b, 1, 1, 0);
        b.put(4, 0).on(1);
        flags("behind a trap", b, 0, 1, 0);
        b.put(041, Bench.code(HALT, 4, 0)).on(1);
        flags("behind a HALT", b, 0, 1, 1);
        b.machine.start(3, false);
        flags("behind start", b, 0, 0, 0);
    }

    private static void flags(String when, Bench b, int user, int overflow, int stopped) {
        Check.same(when + ": look(1)", b.machine.look(1), user);
        Check.same(when + ": look(2)", b.machine.look(2), overflow);
        Check.same(when + ": look(3)", b.machine.look(3), stopped);
    }

    private static void counts(String when, Bench b, int steps, int traps, int latest) {
        Check.same(when + ": look(4)", b.machine.look(4), steps);
        Check.same(when + ": look(5)", b.machine.look(5), traps);
        Check.same(when + ": look(6)", b.machine.look(6), latest);
    }

    private static void lookCounts() {
        Check.sentence("the steps made (4; those that trapped or stopped, too), the traps (5)");
        Bench b = new Bench();
        counts("new", b, 0, 0, 0);
        b.put(0, Bench.code(NOTHING, 0, 0)).on(1);
        counts("a step", b, 1, 0, 0);
        b.on(1);
        counts("a step that trapped", b, 2, 1, 2);
        b.put(041, Bench.code(HALT, 4, 0)).on(1);
        counts("a step that stopped", b, 3, 1, 2);
        b.on(100);
        counts("no step when STOPPED", b, 3, 1, 2);
        b.on(101);
        counts("no step when refused", b, 3, 1, 2);
    }

    private static void lookLatestTrap() {
        Check.sentence("the latest one's code, 0 before (6)");
        Bench b = new Bench().put(3, Bench.code(NOTHING, 0, 0)).goFrom(3, false, 1);
        counts("no trap", b, 1, 0, 0);
        counts("trap 4", b.put(3, Bench.code(0256, 0, 3)).goFrom(3, false, 1), 2, 1, 4);
        counts("trap 1", b.goFrom(02000, false, 1), 3, 2, 1);
        counts("trap 2", b.put(3, 0).goFrom(3, false, 1), 4, 3, 2);
        counts("none", b.put(3, Bench.code(NOTHING, 0, 0)).goFrom(3, false, 1), 5, 3, 2);
    }

    private static void lookCountsAndStart() {
        Check.sentence("start() changes none of these three");
        Bench b = new Bench().goFrom(02000, true, 1).put(041, Bench.code(NOTHING, 0, 0)).on(1);
        counts("before", b, 2, 1, 1);
        b.machine.start(0, false);
        counts("start in EXEC", b, 2, 1, 1);
        b.machine.start(0777777, true);
        counts("start in USER", b, 2, 1, 1);
    }

    private static void lookOther() {
        Check.sentence("-1 for another what");
        for (int what : new int[] {-1, 7, 8, Integer.MIN_VALUE, Integer.MAX_VALUE}) {
            Check.same("look(" + what + ")", new WordMachine().look(what), -1);
            Twins.unchanged("look(" + what + ")", x -> x.look(what));
        }
        Check.same("look(0)", new WordMachine().look(0), 0);
        Check.same("look(6)", new WordMachine().look(6), 0);
    }
}
