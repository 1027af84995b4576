import java.math.BigInteger;

/** Promise 7: ADD, SUB, IMUL and IDIV, in all modes. */
public final class SumTest {
    private static final int ADD = 0270;
    private static final int SUB = 0274;
    private static final int IMUL = 0220;
    private static final int IDIV = 0230;
    private static final long OLD = 0111111222222L;
    private static final long[] FACTORS = {0200000, 0377777, 0400000, 0400001, 0777400000000L, 0777777400000L,
        0777777377777L, 012345, 0777777654321L, 0200000000000L, 0600000000000L};

    public static void main(String[] args) {
        for (int op : new int[] {ADD, SUB, IMUL, IDIV}) {
            for (long a : Bench.EDGES) {
                for (long b : Bench.EDGES) {
                    allModes(op, a, b);
                }
                for (long b : FACTORS) {
                    allModes(op, a, b);
                    allModes(op, b, a);
                }
            }
            outside(op);
        }
        factors();
        restGoesBehindTheLast();
        restAndEAtOnePlace();
        Check.end();
    }

    private static void factors() {
        for (long a : FACTORS) {
            for (long b : FACTORS) {
                allModes(IMUL, a, b);
                allModes(IDIV, a, b);
            }
        }
    }

    private static BigInteger exact(int op, long a, long b) {
        BigInteger x = BigInteger.valueOf(Bench.number(a));
        BigInteger y = BigInteger.valueOf(Bench.number(b));
        switch (op) {
            case ADD:
                return x.add(y);
            case SUB:
                return x.subtract(y);
            case IMUL:
                return x.multiply(y);
            default:
                return y.signum() == 0 ? null : x.divide(y);
        }
    }

    private static boolean isRight(BigInteger exact) {
        return exact != null && exact.bitLength() <= 35;
    }

    private static void allModes(int op, long a, long b) {
        for (int mode = 0; mode < 4; mode++) {
            for (int ac : new int[] {0, 1}) {
                if (mode == 1) {
                    one(op, mode, ac, a, b & 0777777);
                } else {
                    one(op, mode, ac, a, b);
                }
            }
        }
    }

    private static void one(int op, int mode, int ac, long a, long b) {
        Bench x = new Bench().put(ac, a).put(ac + 1, OLD);
        if (mode != 1) {
            x.put(Bench.E, b);
        }
        x.go(Bench.code(op + mode, ac, mode == 1 ? b : Bench.E));
        BigInteger exact = exact(op, a, b);
        boolean isDone = op != IDIV || isRight(exact);
        long result = isDone ? exact.longValue() & Bench.WORD : 0;
        String what = "OP 0" + Integer.toOctalString(op + mode) + " of " + a + ", " + b;
        Check.same(what + " to AC", x.at(ac), isDone && mode != 2 ? result : a);
        Check.same(what + " OVERFLOW", x.overflow(), !isRight(exact));
        Check.same(what + " trap", x.trap(), 0);
        if (mode != 1) {
            Check.same(what + " to E", x.at(Bench.E), isDone && mode >= 2 ? result : b);
        }
        boolean hasRest = op == IDIV && isDone && mode != 2;
        long rest = hasRest ? (Bench.number(a) - exact.longValue() * Bench.number(b)) & Bench.WORD : OLD;
        Check.same(what + " rest", x.at(ac + 1), rest);
    }

    private static void outside(int op) {
        for (int mode = 0; mode < 4; mode++) {
            if (mode == 1) {
                continue;
            }
            Bench b = new Bench().put(1, OLD).go(Bench.code(op + mode, 1, Bench.OUTSIDE));
            Check.same("trap of OP 0" + Integer.toOctalString(op + mode), b.trap(), 1);
            Check.same("AC of the trapped one", b.at(1), OLD);
            Check.same("no OVERFLOW of the trapped one", b.overflow(), false);
        }
    }

    private static void restGoesBehindTheLast() {
        for (int ac = 0; ac < 16; ac++) {
            Bench b = new Bench().put(ac, 23).go(Bench.code(0231, ac, 5));
            for (int other = 0; other < 16; other++) {
                long due = other == ac ? 4 : other == (ac + 1) % 16 ? 3 : 0;
                Check.same("accumulator " + other + " of IDIV with AC " + ac, b.at(other), due);
            }
        }
        Bench b = new Bench().put(017, 0777777777771L).put(0, OLD).go(Bench.code(0231, 017, 3));
        Check.same("-7 / 3", b.machine.number(017), -2);
        Check.same("its rest", b.machine.number(0), -1);
        b = new Bench().put(5, 7).put(Bench.E, 0777777777775L).go(Bench.code(0230, 5, Bench.E));
        Check.same("7 / -3", b.machine.number(5), -2);
        Check.same("its rest", b.machine.number(6), 1);
    }

    private static void restAndEAtOnePlace() {
        Bench b = new Bench().put(5, 23).put(6, 5).go(Bench.code(0233, 5, 6));
        Check.same("the quotient", b.at(5), 4);
        Check.same("the rest comes after E", b.at(6), 3);
        b = new Bench().put(5, 23).put(6, 5).go(Bench.code(0232, 5, 6));
        Check.same("AC stays", b.at(5), 23);
        Check.same("the quotient to E only", b.at(6), 4);
    }
}
