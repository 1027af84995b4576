/** Promise 6. */
public final class StartTest {
    public static void main(String[] args) {
        pcAndMode();
        onlyTheLowestBitsOfPc();
        goesOnAfterHalt();
        clearsOverflow();
        whatStays();
        Check.end();
    }

    private static void pcAndMode() {
        WordMachine x = new WordMachine();
        x.start(0123, true);
        Check.same("PC", x.look(0), 0123);
        Check.same("USER", x.look(1), 1);
        x.start(0777777, false);
        Check.same("PC", x.look(0), 0777777);
        Check.same("EXEC", x.look(1), 0);
        Check.same("no steps", x.look(4), 0);
    }

    private static void onlyTheLowestBitsOfPc() {
        WordMachine x = new WordMachine();
        x.start(01000000, false);
        Check.same("PC of 01000000", x.look(0), 0);
        x.start(01234567, false);
        Check.same("PC of 01234567", x.look(0), 0234567);
        x.start(-1, false);
        Check.same("PC of -1", x.look(0), 0777777);
        x.start(Integer.MIN_VALUE + 5, false);
        Check.same("PC of the least and 5", x.look(0), 5);
    }

    private static void goesOnAfterHalt() {
        Bench b = new Bench().go(Bench.code(0254, 4, 0300));
        Check.same("STOPPED", b.machine.look(3), 1);
        b.machine.start(0300, false);
        Check.same("not STOPPED", b.machine.look(3), 0);
        Check.same("goes on", b.machine.run(1), 1);
    }

    private static void clearsOverflow() {
        Bench b = new Bench().put(1, Bench.MOST).go(Bench.code(0340, 1, 0));
        Check.same("OVERFLOW", b.overflow(), true);
        b.machine.start(0, false);
        Check.same("no OVERFLOW", b.overflow(), false);
    }

    private static void whatStays() {
        Bench b = new Bench();
        b.machine.segment(0, 256, 64);
        b.machine.segment(1, 512, 8);
        b.put(7, 5).put(512, 6).go(0);
        b.machine.start(0, true);
        Check.same("steps", b.machine.look(4), 1);
        Check.same("traps", b.machine.look(5), 1);
        Check.same("the latest trap", b.machine.look(6), 2);
        Check.same("a word", b.at(7), 5);
        b.put(256 + 030, Bench.code(0200, 1, 0400000)).goFrom(030, true, 1);
        Check.same("the segments", b.at(1), 6);
    }
}
