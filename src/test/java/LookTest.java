/** Promise 8. */
public final class LookTest {
    public static void main(String[] args) {
        everyAnswer();
        anotherWhat();
        trapsAndHaltsAreSteps();
        Check.end();
    }

    private static void all(String when, WordMachine x, int... due) {
        for (int what = 0; what < due.length; what++) {
            Check.same(when + ": look(" + what + ")", x.look(what), due[what]);
        }
    }

    private static void everyAnswer() {
        Bench b = new Bench();
        b.machine.segment(0, 256, 64);
        all("new", b.machine, 0, 0, 0, 0, 0, 0, 0);
        b.machine.start(4, true);
        all("started", b.machine, 4, 1, 0, 0, 0, 0, 0);
        b.put(4, Bench.code(0211, 1, 5)).put(5, Bench.code(0214, 1, 6)).put(6, Bench.LEAST);
        b.on(1);
        all("a step", b.machine, 5, 1, 0, 0, 1, 0, 0);
        b.on(1);
        all("OVERFLOW", b.machine, 6, 1, 1, 0, 2, 0, 0);
        b.put(6, Bench.code(0200, 1, 0300)).on(1);
        all("trap 1", b.machine, 041, 0, 1, 0, 3, 1, 1);
        b.on(1);
        all("trap 2", b.machine, 041, 0, 1, 0, 4, 2, 2);
        b.put(041, Bench.code(0256, 0, 041)).on(1);
        all("trap 4", b.machine, 041, 0, 1, 0, 5, 3, 4);
        b.put(041, Bench.code(0254, 4, 0777777)).on(1);
        all("HALT", b.machine, 0777777, 0, 1, 1, 6, 3, 4);
        b.on(1);
        all("STOPPED", b.machine, 0777777, 0, 1, 1, 6, 3, 4);
    }

    private static void anotherWhat() {
        WordMachine x = new WordMachine();
        for (int what : new int[] {-1, 7, 8, Integer.MIN_VALUE, Integer.MAX_VALUE}) {
            Check.same("look(" + what + ")", x.look(what), -1);
        }
    }

    private static void trapsAndHaltsAreSteps() {
        WordMachine x = new WordMachine();
        for (int i = 1; i <= 200; i++) {
            x.run(100);
        }
        Check.same("steps", x.look(4), 20000);
        Check.same("traps", x.look(5), 20000);
    }
}
