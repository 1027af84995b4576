/** All promises: runs of calls, made by a fixed rule, on a WordMachine and on the Model beside it. */
public final class ModelTest {
    private static final int RUNS = 20000;

    private long seed;
    private WordMachine machine;
    private Model model;
    private String name;

    public static void main(String[] args) {
        for (int run = 1; run <= RUNS; run++) {
            new ModelTest().compare(run);
        }
        Check.end();
    }

    private int any(int below) {
        seed = seed * 6364136223846793005L + 1442695040888963407L;
        return (int) ((seed >>> 33) % below);
    }

    private int oneOf(int... choices) {
        return choices[any(choices.length)];
    }

    private void compare(int run) {
        seed = run;
        name = "run " + run + ": ";
        machine = new WordMachine();
        model = new Model();
        deposits();
        segments();
        for (int i = 0; i < 12; i++) {
            anyCall();
        }
        everything();
    }

    private void deposits() {
        for (int i = 0; i < 100; i++) {
            deposit(oneOf(any(16), any(16), 32 + any(40), 64 + any(64), 64 + any(64), any(1024)), anyWord());
        }
    }

    private void deposit(int place, long word) {
        Check.same(name + "deposit", machine.deposit(place, word), model.deposit(place, word));
    }

    private void segments() {
        segment(0, oneOf(0, 0, 48, 64, any(1025)), oneOf(128, 64, 1024, any(1025)));
        segment(1, oneOf(0, 64, 1000, any(1025)), oneOf(0, 16, 64, any(1025)));
    }

    private void segment(int which, int base, int bound) {
        Check.same(name + "segment", machine.segment(which, base, bound), model.segment(which, base, bound));
    }

    private void anyCall() {
        switch (any(12)) {
            case 0:
                segment(any(4) - 1, any(1100) - 20, any(1100) - 20);
                break;
            case 1:
                deposit(any(1100) - 20, anyWord());
                break;
            case 2:
            case 3:
            case 4:
            case 5: {
                int pc = oneOf(64 + any(64), 64 + any(64), any(16), 0400000 + any(20), any(1 << 18));
                boolean user = any(2) == 0;
                machine.start(pc, user);
                model.start(pc, user);
                break;
            }
            default: {
                int n = oneOf(1, 1, 2, 3, 5, 10, any(110) - 2);
                Check.same(name + "run(" + n + ")", machine.run(n), model.run(n));
            }
        }
        state();
    }

    private void state() {
        for (int what = 0; what <= 6; what++) {
            Check.same(name + "look(" + what + ")", machine.look(what), model.look(what));
        }
        for (int place = 0; place < 16; place++) {
            Check.same(name + "examine(" + place + ")", machine.examine(place), model.examine(place));
        }
        Check.same(name + "number(32)", machine.number(32), model.number(32));
    }

    private void everything() {
        for (int i = 0; i < 100; i++) {
            int place = i < 80 ? 32 + i : any(1024);
            Check.same(name + "examine(" + place + ")", machine.examine(place), model.examine(place));
        }
    }

    private int anyAddress() {
        return oneOf(any(16), 64 + any(64), 64 + any(64), 32 + any(40), 0400000 + any(20), any(1100), any(1 << 18));
    }

    private int listedOperation() {
        int[] dense = {0133 + any(5), 0200 + any(16), 0220 + any(4), 0230 + any(4), 0240 + any(3), 0250 + any(5),
            0256, 0260 + any(6), 0270 + any(8), 0300 + any(64), 0400 + any(64), 0500 + any(64), 0600 + any(64)};
        return oneOf(dense);
    }

    private long anyWord() {
        switch (any(12)) {
            case 0:
                return Bench.EDGES[any(Bench.EDGES.length)];
            case 1:
                return (long) any(1 << 18) << 18 | any(1 << 18);
            case 2:
                return Bench.word(oneOf(0, 1, 0777776, 0777777, anyAddress()), anyAddress());
            case 3:
                return Bench.pointer(any(40), oneOf(6, 7, 8, 9, 18, 36, any(64)), oneOf(0, 0, 0, 1),
                    oneOf(0, 0, any(16)), anyAddress());
            case 4:
                return Bench.code(any(512), any(16), oneOf(0, 0, 0, 1), oneOf(0, 0, any(16)), anyAddress());
            default:
                return Bench.code(listedOperation(), any(16), oneOf(0, 0, 0, 0, 1), oneOf(0, 0, 0, any(16)),
                    anyAddress());
        }
    }
}
