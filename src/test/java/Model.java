import java.math.BigInteger;

/**
 * The document told once more, in another way than the class: words are BigIntegers, a trap is an
 * exception, shifts and bytes go bit by bit. It has the face of WordMachine, so runs can be compared.
 */
final class Model {
    private static final class Trap extends RuntimeException {
        private static final long serialVersionUID = 1;
        final int code;

        Trap(int code) {
            super(null, null, false, false);
            this.code = code;
        }
    }

    private static final BigInteger SIZE = BigInteger.ONE.shiftLeft(36);
    private static final BigInteger HALF_SIZE = BigInteger.ONE.shiftLeft(18);

    private final BigInteger[] store = new BigInteger[1024];
    private final int[] base = new int[2];
    private final int[] bound = new int[2];
    private int pc;
    private boolean user;
    private boolean overflow;
    private boolean stopped;
    private int steps;
    private int traps;
    private int latest;
    private int words;

    Model() {
        java.util.Arrays.fill(store, BigInteger.ZERO);
    }

    boolean deposit(int place, long word) {
        if (place < 0 || place > 1023) {
            return false;
        }
        store[place] = BigInteger.valueOf(word).mod(SIZE);
        return true;
    }

    long examine(int place) {
        return place < 0 || place > 1023 ? -1 : store[place].longValue();
    }

    long number(int place) {
        return place < 0 || place > 1023 ? 0 : signed(store[place]).longValue();
    }

    boolean segment(int which, int newBase, int newBound) {
        if ((which != 0 && which != 1) || newBase < 0 || newBase > 1024 || newBound < 0 || newBound > 1024) {
            return false;
        }
        base[which] = newBase;
        bound[which] = newBound;
        return true;
    }

    void start(int newPc, boolean newUser) {
        pc = Math.floorMod(newPc, 1 << 18);
        user = newUser;
        stopped = false;
        overflow = false;
    }

    int run(int n) {
        if (n < 1 || n > 100) {
            return -1;
        }
        int made = 0;
        for (; made < n && !stopped; made++) {
            step();
        }
        return made;
    }

    int look(int what) {
        int[] answers = {pc, user ? 1 : 0, overflow ? 1 : 0, stopped ? 1 : 0, steps, traps, latest};
        return what < 0 || what >= answers.length ? -1 : answers[what];
    }

    private static BigInteger signed(BigInteger word) {
        return word.testBit(35) ? word.subtract(SIZE) : word;
    }

    private static BigInteger big(long value) {
        return BigInteger.valueOf(value);
    }

    private static int left(BigInteger word) {
        return word.divide(HALF_SIZE).intValue();
    }

    private static int right(BigInteger word) {
        return word.mod(HALF_SIZE).intValue();
    }

    private static BigInteger word(int left, int right) {
        return big(Math.floorMod(left, 1 << 18)).multiply(HALF_SIZE).add(big(Math.floorMod(right, 1 << 18)));
    }

    private BigInteger result(BigInteger exact) {
        BigInteger word = exact.mod(SIZE);
        if (!signed(word).equals(exact)) {
            overflow = true;
        }
        return word;
    }

    private int place(int address) {
        int place = address;
        if (user && address > 15) {
            if (address < bound[0]) {
                place = address + base[0];
            } else if (address >= 131072 && address - 131072 < bound[1]) {
                place = address - 131072 + base[1];
            } else {
                throw new Trap(1);
            }
        }
        if (place > 1023) {
            throw new Trap(1);
        }
        return place;
    }

    private BigInteger get(int address) {
        return store[place(address)];
    }

    private void set(int address, BigInteger word) {
        store[place(address)] = word;
    }

    private void step() {
        int begun = pc;
        words = 0;
        steps++;
        try {
            BigInteger instruction = get(pc);
            pc = (pc + 1) % (1 << 18);
            perform(instruction);
        } catch (Trap trap) {
            traps++;
            latest = trap.code;
            store[32] = word((overflow ? 131072 : 0) + (user ? 4096 : 0) + trap.code, begun);
            user = false;
            pc = 33;
        }
    }

    private void oneMoreWord() {
        words++;
        if (words > 8) {
            throw new Trap(4);
        }
    }

    private static int field(BigInteger word, int lowest, int bits) {
        return word.shiftRight(lowest).mod(BigInteger.ONE.shiftLeft(bits)).intValue();
    }

    private int address(BigInteger word) {
        int e = field(word, 0, 18);
        int x = field(word, 18, 4);
        if (x > 0) {
            e = (e + right(store[x])) % (1 << 18);
        }
        if (!word.testBit(22)) {
            return e;
        }
        oneMoreWord();
        return address(get(e));
    }

    private void perform(BigInteger instruction) {
        int e = address(instruction);
        int ac = field(instruction, 23, 4);
        int first = field(instruction, 33, 3);
        int second = field(instruction, 30, 3);
        int third = field(instruction, 27, 3);
        if (first == 1 && second == 3 && third >= 3) {
            bytes(third, ac, e);
        } else if (first == 2 && second <= 1) {
            move(second * 2 + third / 4, third % 4, ac, e);
        } else if (first == 2 && (second == 7 || (second <= 3 && third <= 3))) {
            sum(second == 7 ? (third < 4 ? '+' : '-') : second == 2 ? '*' : '/', third % 4, ac, e);
        } else if (first == 2 && second == 4 && third <= 2) {
            shift("ARL".charAt(third), ac, e);
        } else if (first == 2 && second == 5) {
            fifties(third, ac, e);
        } else if (first == 2 && second == 6) {
            sixties(third, ac, e);
        } else if (first == 3) {
            conditions(second, third, ac, e);
        } else if (first == 4) {
            logic((second * 8 + third) / 4, third % 4, ac, e);
        } else if (first == 5) {
            halves(second, third, ac, e);
        } else if (first == 6) {
            tests(second * 8 + third, ac, e);
        } else {
            throw new Trap(2);
        }
    }

    private void move(int kind, int mode, int ac, int e) {
        BigInteger source = mode == 1 ? big(e) : mode == 2 ? store[ac] : get(e);
        BigInteger moved = source;
        if (kind == 1) {
            moved = word(right(source), left(source));
        } else if (kind == 2) {
            moved = result(signed(source).negate());
        } else if (kind == 3) {
            moved = result(signed(source).abs());
        }
        if (mode >= 2) {
            set(e, moved);
        }
        if (mode < 2 || (mode == 3 && ac != 0)) {
            store[ac] = moved;
        }
    }

    private void put(int mode, int ac, int e, BigInteger word) {
        if (mode >= 2) {
            set(e, word);
        }
        if (mode != 2) {
            store[ac] = word;
        }
    }

    private void sum(char kind, int mode, int ac, int e) {
        BigInteger own = signed(store[ac]);
        BigInteger source = signed(mode == 1 ? big(e) : get(e));
        if (kind != '/') {
            put(mode, ac, e, result(kind == '+' ? own.add(source) : kind == '-' ? own.subtract(source)
                : own.multiply(source)));
            return;
        }
        if (source.signum() == 0 || own.divide(source).bitLength() > 35) {
            overflow = true;
            return;
        }
        put(mode, ac, e, own.divide(source).mod(SIZE));
        if (mode != 2) {
            store[(ac + 1) % 16] = own.remainder(source).mod(SIZE);
        }
    }

    private void shift(char kind, int ac, int e) {
        int by = e % 256 - (e >= 131072 ? 256 : 0);
        for (int i = 0; i < Math.abs(by); i++) {
            BigInteger own = store[ac];
            boolean sign = own.testBit(35);
            BigInteger next;
            if (by > 0) {
                next = own.shiftLeft(1).mod(SIZE);
                if (kind == 'A') {
                    overflow |= own.testBit(34) != sign;
                    next = sign ? next.setBit(35) : next.clearBit(35);
                } else if (kind == 'R' && sign) {
                    next = next.setBit(0);
                }
            } else {
                next = own.shiftRight(1);
                if ((kind == 'A' && sign) || (kind == 'R' && own.testBit(0))) {
                    next = next.setBit(35);
                }
            }
            store[ac] = next;
        }
    }

    private void fifties(int third, int ac, int e) {
        if (third == 0) {
            BigInteger word = get(e);
            set(e, store[ac]);
            store[ac] = word;
        } else if (third == 1) {
            int from = left(store[ac]);
            int to = right(store[ac]);
            set(to, get(from));
            while (to < e) {
                to++;
                from++;
                set(to, get(from));
            }
        } else if (third == 2 || third == 3) {
            store[ac] = word(left(store[ac]) + 1, right(store[ac]) + 1);
            if (store[ac].testBit(35) == (third == 3)) {
                pc = e;
            }
        } else if (third == 4 && (ac == 0 || ac == 1 || (ac == 4 && !user))) {
            pc = e;
            user |= ac == 1;
            stopped = ac == 4;
        } else if (third == 6) {
            oneMoreWord();
            perform(get(e));
        } else {
            throw new Trap(2);
        }
    }

    private void grow(int ac) {
        store[ac] = word(left(store[ac]) + 1, right(store[ac]) + 1);
        overflow |= left(store[ac]) == 0;
    }

    private void fall(int ac) {
        store[ac] = word(left(store[ac]) - 1, right(store[ac]) - 1);
        overflow |= left(store[ac]) == 0777777;
    }

    private BigInteger pcWord() {
        return word((overflow ? 131072 : 0) + (user ? 4096 : 0), pc);
    }

    private void sixties(int third, int ac, int e) {
        if (third == 0) {
            grow(ac);
            set(right(store[ac]), pcWord());
            pc = e;
        } else if (third == 1) {
            grow(ac);
            BigInteger taken = get(e);
            set(right(store[ac]), taken);
        } else if (third == 2) {
            set(e, get(right(store[ac])));
            fall(ac);
        } else if (third == 3) {
            pc = right(get(right(store[ac])));
            fall(ac);
        } else if (third == 4) {
            set(e, pcWord());
            pc = (e + 1) % (1 << 18);
        } else if (third == 5) {
            store[ac] = pcWord();
            pc = e;
        } else {
            throw new Trap(2);
        }
    }

    private static boolean so(int condition, BigInteger number) {
        String signs = new String[] {"", "-", "0", "-0", "-0+", "0+", "-+", "+"}[condition];
        return signs.indexOf("-0+".charAt(number.signum() + 1)) >= 0;
    }

    private void skip(boolean so) {
        pc = so ? (pc + 1) % (1 << 18) : pc;
    }

    private void conditions(int kind, int condition, int ac, int e) {
        BigInteger step = big(kind >= 6 ? -1 : 1);
        if (kind == 0) {
            skip(so(condition, signed(store[ac]).subtract(big(e))));
        } else if (kind == 1) {
            skip(so(condition, signed(store[ac]).subtract(signed(get(e)))));
        } else if (kind % 2 == 0) {
            if (kind > 2) {
                store[ac] = result(signed(store[ac]).add(step));
            }
            pc = so(condition, signed(store[ac])) ? e : pc;
        } else {
            if (kind > 3) {
                set(e, result(signed(get(e)).add(step)));
            }
            BigInteger word = get(e);
            if (ac != 0) {
                store[ac] = word;
            }
            skip(so(condition, signed(word)));
        }
    }

    private void logic(int f, int mode, int ac, int e) {
        BigInteger source = mode == 1 ? big(e) : get(e);
        BigInteger made = BigInteger.ZERO;
        for (int bit = 0; bit < 36; bit++) {
            int row = (store[ac].testBit(bit) ? 2 : 0) + (source.testBit(bit) ? 1 : 0);
            if (big(f).testBit(3 - row)) {
                made = made.setBit(bit);
            }
        }
        put(mode, ac, e, made);
    }

    private void halves(int second, int third, int ac, int e) {
        int mode = third % 4;
        BigInteger source = mode == 1 ? big(e) : mode == 2 ? store[ac] : get(e);
        BigInteger changed = mode < 2 ? store[ac] : get(e);
        boolean goesRight = second >= 4;
        boolean comesRight = third < 4 ? goesRight : !goesRight;
        int half = comesRight ? right(source) : left(source);
        int kept = goesRight ? left(changed) : right(changed);
        int other = new int[] {kept, 0, 0777777, half >= 0400000 ? 0777777 : 0}[second % 4];
        BigInteger made = goesRight ? word(other, half) : word(half, other);
        if (mode >= 2) {
            set(e, made);
        }
        if (mode < 2 || (mode == 3 && ac != 0)) {
            store[ac] = made;
        }
    }

    private void tests(int xx, int ac, int e) {
        BigInteger mask = (xx & 8) == 0 ? big(e) : get(e);
        if (xx % 2 == 1) {
            mask = word(right(mask), left(mask));
        }
        boolean none = store[ac].and(mask).signum() == 0;
        int k = xx / 2 % 4;
        skip(k == 2 || (k == 1 && none) || (k == 3 && !none));
        int z = xx / 16;
        store[ac] = z == 0 ? store[ac] : z == 1 ? store[ac].andNot(mask) : z == 2 ? store[ac].xor(mask)
            : store[ac].or(mask);
    }

    private void bytes(int kind, int ac, int e) {
        if (kind == 3 || kind == 4 || kind == 6) {
            BigInteger pointer = get(e);
            int p = field(pointer, 30, 6);
            int s = field(pointer, 24, 6);
            int y = field(pointer, 0, 18);
            if (p >= s) {
                p -= s;
            } else {
                y = (y + 1) % (1 << 18);
                p = s > 36 ? 0 : 36 - s;
            }
            set(e, big((long) p << 30 | (long) s << 24 | (long) field(pointer, 18, 6) << 18 | y));
        }
        if (kind == 3) {
            return;
        }
        BigInteger pointer = get(e);
        int p = field(pointer, 30, 6);
        int s = Math.min(field(pointer, 24, 6), 36);
        int address = address(pointer);
        BigInteger word = get(address);
        BigInteger loaded = BigInteger.ZERO;
        for (int i = 0; i < s && p + i < 36; i++) {
            if (kind <= 5) {
                loaded = word.testBit(p + i) ? loaded.setBit(i) : loaded;
            } else {
                word = store[ac].testBit(i) ? word.setBit(p + i) : word.clearBit(p + i);
            }
        }
        if (kind <= 5) {
            store[ac] = loaded;
        } else {
            set(address, word);
        }
    }
}
