/**
 * A machine of words of 36 bits with sixteen accumulators, and a user's two segments.
 *
 * A step that traps is not left by an exception: the code is kept in {@code trap}, and from then on
 * whatever changes the machine (write, setAccumulator, setOverflow) does nothing, so that what was
 * done before the trap stays and nothing comes after it. PC needs no such care: a trap sets it anew.
 */
public final class WordMachine {
    private static final int STORE_SIZE = 1024;
    private static final int ACCUMULATORS = 16;
    private static final int HIGH_START = 0400000;
    private static final int NO_PLACE = -1;

    private static final long WORD = 0777777777777L;
    private static final long WORD_SIGN = 0400000000000L;
    private static final int HALF = 0777777;
    private static final int HALF_SIGN = 0400000;
    private static final int WORD_BITS = 36;

    private static final int NO_TRAP = 0;
    private static final int TRAP_ADDRESS = 1;
    private static final int TRAP_OPERATION = 2;
    private static final int TRAP_CHAIN = 4;
    private static final int TRAP_PLACE = 040;
    private static final int TRAP_PC = 041;

    private static final int OVERFLOW_FLAG = 0400000;
    private static final int USER_FLAG = 010000;

    private static final int MOST_TAKEN = 8;
    private static final int MOST_STEPS = 100;
    private static final int XCT = 0256;

    private static final int MODE_IMMEDIATE = 1;
    private static final int MODE_TO_E = 2;
    private static final int MODE_TO_BOTH = 3;

    private final long[] words;
    private int lowBase;
    private int lowBound;
    private int highBase;
    private int highBound;
    private int pc;
    private boolean user;
    private boolean overflow;
    private boolean stopped;
    private int steps;
    private int traps;
    private int latestTrap;
    private int trap;
    private int taken;

    /** Promise 1: all words 0, PC 0, EXEC, both segments with base and bound 0. */
    public WordMachine() {
        words = new long[STORE_SIZE];
    }

    /** Promise 2: sets a place of the store to the lowest 36 bits of a number. */
    public boolean deposit(int place, long word) {
        if (!isPlace(place)) {
            return false;
        }
        words[place] = word & WORD;
        return true;
    }

    /** Promise 3: the word at a place of the store, -1 if there is none such. */
    public long examine(int place) {
        return isPlace(place) ? words[place] : -1;
    }

    /** Promise 4: the word at a place as a number with a sign, 0 if there is none such. */
    public long number(int place) {
        return isPlace(place) ? signed(words[place]) : 0;
    }

    /** Promise 5: sets base and bound of the LOW (0) or HIGH (1) segment. */
    public boolean segment(int which, int base, int bound) {
        if (which < 0 || which > 1 || !isExtent(base) || !isExtent(bound)) {
            return false;
        }
        if (which == 0) {
            lowBase = base;
            lowBound = bound;
        } else {
            highBase = base;
            highBound = bound;
        }
        return true;
    }

    /** Promise 6: sets PC and MODE; neither STOPPED nor OVERFLOW any more. */
    public void start(int pc, boolean user) {
        this.pc = pc & HALF;
        this.user = user;
        stopped = false;
        overflow = false;
    }

    /** Promise 7: makes n steps, or fewer if the machine is STOPPED, and tells how many. */
    public int run(int n) {
        if (n < 1 || n > MOST_STEPS) {
            return -1;
        }
        int made = 0;
        while (made < n && !stopped) {
            step();
            made++;
        }
        return made;
    }

    /** Promise 8: PC, USER, OVERFLOW, STOPPED, the steps, the traps, the latest trap's code. */
    public int look(int what) {
        switch (what) {
            case 0:
                return pc;
            case 1:
                return user ? 1 : 0;
            case 2:
                return overflow ? 1 : 0;
            case 3:
                return stopped ? 1 : 0;
            case 4:
                return steps;
            case 5:
                return traps;
            case 6:
                return latestTrap;
            default:
                return -1;
        }
    }

    // Steps and traps

    private void step() {
        int begun = pc;
        steps++;
        trap = NO_TRAP;
        taken = 0;
        long instruction = read(pc);
        pc = wrapped(pc + 1);
        int e = effective(instruction);
        // One round more than may be taken: the last one traps.
        for (int i = 0; i <= MOST_TAKEN && trap == NO_TRAP && operation(instruction) == XCT; i++) {
            instruction = take(e);
            e = effective(instruction);
        }
        if (trap == NO_TRAP) {
            carryOut(operation(instruction), accumulator(instruction), e);
        }
        if (trap != NO_TRAP) {
            enterTrap(begun);
        }
    }

    private void enterTrap(int begun) {
        words[TRAP_PLACE] = joined(flags() | trap, begun);
        user = false;
        pc = TRAP_PC;
        traps++;
        latestTrap = trap;
    }

    /** The first trap of a step is the one that counts. */
    private void raise(int code) {
        if (trap == NO_TRAP) {
            trap = code;
        }
    }

    private int flags() {
        return (overflow ? OVERFLOW_FLAG : 0) | (user ? USER_FLAG : 0);
    }

    private long pcWord() {
        return joined(flags(), pc);
    }

    /** E is made before this, so an OP that is not listed traps only if making its E did not. */
    private void carryOut(int op, int ac, int e) {
        switch (op >> 3) {
            case 013:
                bytes(op, ac, e);
                return;
            case 020:
            case 021:
                move(op, ac, e);
                return;
            case 022:
                multiply(op, ac, e);
                return;
            case 023:
                divide(op, ac, e);
                return;
            case 024:
                shift(op, ac, e);
                return;
            case 025:
                exchangeOrJump(op, ac, e);
                return;
            case 026:
                stack(op, ac, e);
                return;
            case 027:
                sum(op, ac, e);
                return;
            default:
                break;
        }
        switch (op >> 6) {
            case 3:
                compare(op, ac, e);
                return;
            case 4:
                logic(op, ac, e);
                return;
            case 5:
                halves(op, ac, e);
                return;
            case 6:
                test(op, ac, e);
                return;
            default:
                raise(TRAP_OPERATION);
        }
    }

    // Store and addresses

    private static boolean isPlace(int place) {
        return place >= 0 && place < STORE_SIZE;
    }

    private static boolean isExtent(int extent) {
        return extent >= 0 && extent <= STORE_SIZE;
    }

    /** May lie beyond the store: whoever uses it looks. */
    private int placeOf(int address) {
        if (!user || address < ACCUMULATORS) {
            return address;
        }
        if (address < lowBound) {
            return address + lowBase;
        }
        int above = address - HIGH_START;
        return above >= 0 && above < highBound ? above + highBase : NO_PLACE;
    }

    private long read(int address) {
        int place = placeOf(address);
        if (!isPlace(place)) {
            raise(TRAP_ADDRESS);
            return 0;
        }
        return words[place];
    }

    private void write(int address, long word) {
        int place = placeOf(address);
        if (!isPlace(place)) {
            raise(TRAP_ADDRESS);
        } else if (trap == NO_TRAP) {
            words[place] = word;
        }
    }

    private void setAccumulator(int ac, long word) {
        if (trap == NO_TRAP) {
            words[ac] = word;
        }
    }

    private void setAccumulatorButZero(int ac, long word) {
        if (ac != 0) {
            setAccumulator(ac, word);
        }
    }

    private void setOverflow() {
        if (trap == NO_TRAP) {
            overflow = true;
        }
    }

    /** The address that I, X and Y of an instruction or of a pointer give. */
    private int effective(long word) {
        long from = word;
        int e = indexed(from);
        // One round more than may be taken: the last one traps.
        for (int i = 0; i <= MOST_TAKEN && trap == NO_TRAP && isIndirect(from); i++) {
            from = take(e);
            e = indexed(from);
        }
        return e;
    }

    /** A word for I or an instruction for XCT, of which a step may take but a few. */
    private long take(int address) {
        if (taken == MOST_TAKEN) {
            raise(TRAP_CHAIN);
            return 0;
        }
        taken++;
        return read(address);
    }

    private int indexed(long word) {
        int x = (int) (word >>> 18) & 017;
        int y = right(word);
        return x == 0 ? y : wrapped(y + right(words[x]));
    }

    private static boolean isIndirect(long word) {
        return (word >>> 22 & 1) != 0;
    }

    private static int operation(long instruction) {
        return (int) (instruction >>> 27) & 0777;
    }

    private static int accumulator(long instruction) {
        return (int) (instruction >>> 23) & 017;
    }

    private static int wrapped(int address) {
        return address & HALF;
    }

    private void skipIf(boolean so) {
        if (so) {
            pc = wrapped(pc + 1);
        }
    }

    private void jumpIf(boolean so, int e) {
        if (so) {
            pc = e;
        }
    }

    // Words and numbers

    private static int left(long word) {
        return (int) (word >>> 18) & HALF;
    }

    private static int right(long word) {
        return (int) word & HALF;
    }

    private static long joined(int left, int right) {
        return (long) left << 18 | right;
    }

    private static long swapped(long word) {
        return joined(right(word), left(word));
    }

    private static long signed(long word) {
        return word << 28 >> 28;
    }

    /** The lowest 36 bits of a number; OVERFLOW if they do not tell the same number. */
    private long fitted(long number) {
        long word = number & WORD;
        if (signed(word) != number) {
            setOverflow();
        }
        return word;
    }

    // Modes

    private long source(int mode, int e) {
        return mode == MODE_IMMEDIATE ? e : read(e);
    }

    private long movedSource(int mode, int ac, int e) {
        return mode == MODE_TO_E ? words[ac] : source(mode, e);
    }

    private void putMoved(int mode, int ac, int e, long word) {
        if (mode == MODE_TO_E) {
            write(e, word);
        } else if (mode == MODE_TO_BOTH) {
            write(e, word);
            setAccumulatorButZero(ac, word);
        } else {
            setAccumulator(ac, word);
        }
    }

    private void putResult(int mode, int ac, int e, long word) {
        if (mode >= MODE_TO_E) {
            write(e, word);
        }
        if (mode != MODE_TO_E) {
            setAccumulator(ac, word);
        }
    }

    // Moves, sums and logic

    private void move(int op, int ac, int e) {
        int mode = op & 3;
        long source = movedSource(mode, ac, e);
        putMoved(mode, ac, e, changedToMove(op >> 2 & 3, source));
    }

    private long changedToMove(int kind, long source) {
        switch (kind) {
            case 0:
                return source;
            case 1:
                return swapped(source);
            case 2:
                return fitted(-signed(source));
            default:
                return fitted(Math.abs(signed(source)));
        }
    }

    private void sum(int op, int ac, int e) {
        int mode = op & 3;
        long own = signed(words[ac]);
        long source = signed(source(mode, e));
        boolean adds = (op & 4) == 0;
        putResult(mode, ac, e, fitted(adds ? own + source : own - source));
    }

    private void multiply(int op, int ac, int e) {
        if ((op & 4) != 0) {
            raise(TRAP_OPERATION);
            return;
        }
        int mode = op & 3;
        long own = signed(words[ac]);
        long source = signed(source(mode, e));
        if (!productFits(own, source)) {
            setOverflow();
        }
        putResult(mode, ac, e, own * source & WORD);
    }

    /** The product may need 71 bits: what lies above its lowest 18 is made without them. */
    private static boolean productFits(long a, long b) {
        long upper = a * (b >> 18) + (a * (b & HALF) >> 18);
        return upper >= -HALF_SIGN && upper < HALF_SIGN;
    }

    private void divide(int op, int ac, int e) {
        if ((op & 4) != 0) {
            raise(TRAP_OPERATION);
            return;
        }
        int mode = op & 3;
        long own = signed(words[ac]);
        long source = signed(source(mode, e));
        if (source == 0 || (own == -WORD_SIGN && source == -1)) {
            setOverflow();
            return;
        }
        putResult(mode, ac, e, (own / source) & WORD);
        if (mode != MODE_TO_E) {
            setAccumulator((ac + 1) & 017, (own % source) & WORD);
        }
    }

    private void logic(int op, int ac, int e) {
        int mode = op & 3;
        int f = op >> 2 & 017;
        long a = words[ac];
        long s = source(mode, e);
        long result = 0;
        if ((f & 8) != 0) {
            result |= ~a & ~s;
        }
        if ((f & 4) != 0) {
            result |= ~a & s;
        }
        if ((f & 2) != 0) {
            result |= a & ~s;
        }
        if ((f & 1) != 0) {
            result |= a & s;
        }
        putResult(mode, ac, e, result & WORD);
    }

    // Halves and tests of bits

    private void halves(int op, int ac, int e) {
        int mode = op & 3;
        boolean toRight = (op & 040) != 0;
        boolean crosses = (op & 4) != 0;
        long source = movedSource(mode, ac, e);
        long changed = mode >= MODE_TO_E ? read(e) : words[ac];
        int half = toRight != crosses ? right(source) : left(source);
        int other = otherHalf(op >> 3 & 3, half, toRight ? left(changed) : right(changed));
        putMoved(mode, ac, e, toRight ? joined(other, half) : joined(half, other));
    }

    private static int otherHalf(int kind, int moved, int stays) {
        switch (kind) {
            case 0:
                return stays;
            case 1:
                return 0;
            case 2:
                return HALF;
            default:
                return (moved & HALF_SIGN) != 0 ? HALF : 0;
        }
    }

    private void test(int op, int ac, int e) {
        long mask = (op & 010) != 0 ? read(e) : e;
        if ((op & 1) != 0) {
            mask = swapped(mask);
        }
        long own = words[ac];
        skipIf(testSkips(op >> 1 & 3, own & mask));
        setAccumulator(ac, maskedChange(op >> 4 & 3, own, mask));
    }

    private static boolean testSkips(int kind, long masked) {
        switch (kind) {
            case 1:
                return masked == 0;
            case 2:
                return true;
            case 3:
                return masked != 0;
            default:
                return false;
        }
    }

    private static long maskedChange(int kind, long word, long mask) {
        switch (kind) {
            case 1:
                return word & ~mask;
            case 2:
                return word ^ mask;
            case 3:
                return word | mask;
            default:
                return word;
        }
    }

    // Conditions

    private static boolean holds(int condition, long number) {
        switch (condition) {
            case 1:
                return number < 0;
            case 2:
                return number == 0;
            case 3:
                return number <= 0;
            case 4:
                return true;
            case 5:
                return number >= 0;
            case 6:
                return number != 0;
            case 7:
                return number > 0;
            default:
                return false;
        }
    }

    private void compare(int op, int ac, int e) {
        int condition = op & 7;
        long own = signed(words[ac]);
        switch (op >> 3 & 7) {
            case 0:
                skipIf(holds(condition, own - e));
                return;
            case 1:
                skipIf(holds(condition, own - signed(read(e))));
                return;
            case 2:
                jumpIf(holds(condition, own), e);
                return;
            case 3:
                skipOnWord(condition, ac, read(e));
                return;
            case 4:
                countAndJump(condition, ac, e, 1);
                return;
            case 5:
                countAndSkip(condition, ac, e, 1);
                return;
            case 6:
                countAndJump(condition, ac, e, -1);
                return;
            default:
                countAndSkip(condition, ac, e, -1);
        }
    }

    private void skipOnWord(int condition, int ac, long word) {
        setAccumulatorButZero(ac, word);
        skipIf(holds(condition, signed(word)));
    }

    private void countAndJump(int condition, int ac, int e, int by) {
        long counted = fitted(signed(words[ac]) + by);
        setAccumulator(ac, counted);
        jumpIf(holds(condition, signed(counted)), e);
    }

    private void countAndSkip(int condition, int ac, int e, int by) {
        long counted = fitted(signed(read(e)) + by);
        write(e, counted);
        skipOnWord(condition, ac, counted);
    }

    // Shifts

    private void shift(int op, int ac, int e) {
        int by = (e & 0377) - ((e & HALF_SIGN) != 0 ? 0400 : 0);
        switch (op) {
            case 0240:
                setAccumulator(ac, shiftedAsNumber(words[ac], by));
                return;
            case 0241:
                setAccumulator(ac, rotated(words[ac], by));
                return;
            case 0242:
                setAccumulator(ac, shiftedAsBits(words[ac], by));
                return;
            default:
                raise(TRAP_OPERATION);
        }
    }

    private long shiftedAsNumber(long word, int by) {
        long number = signed(word);
        if (by <= 0) {
            return number >> Math.min(-by, WORD_BITS) & WORD;
        }
        // From 36 on the zeros that came in are lost too, and they are unlike a negative sign.
        boolean fits = by < WORD_BITS
            ? number >> (WORD_BITS - 1 - by) == number >> WORD_BITS
            : number == 0;
        if (!fits) {
            setOverflow();
        }
        return (word & WORD_SIGN) | (shiftedAsBits(word, by) & ~WORD_SIGN);
    }

    private static long rotated(long word, int by) {
        int left = Math.floorMod(by, WORD_BITS);
        return (word << left | word >>> (WORD_BITS - left)) & WORD;
    }

    private static long shiftedAsBits(long word, int by) {
        if (by <= -WORD_BITS || by >= WORD_BITS) {
            return 0;
        }
        return by < 0 ? word >>> -by : word << by & WORD;
    }

    // Exchange, block and jumps

    private void exchangeOrJump(int op, int ac, int e) {
        switch (op) {
            case 0250:
                exchange(ac, e);
                return;
            case 0251:
                block(ac, e);
                return;
            case 0252:
                moveHalves(ac, 1);
                jumpIf(signed(words[ac]) >= 0, e);
                return;
            case 0253:
                moveHalves(ac, 1);
                jumpIf(signed(words[ac]) < 0, e);
                return;
            case 0254:
                jumpByAccumulator(ac, e);
                return;
            default:
                raise(TRAP_OPERATION);
        }
    }

    private void exchange(int ac, int e) {
        long word = read(e);
        write(e, words[ac]);
        setAccumulator(ac, word);
    }

    private void block(int ac, int e) {
        int from = left(words[ac]);
        int to = right(words[ac]);
        int count = Math.max(e - to, 0) + 1;
        for (int i = 0; i < count && trap == NO_TRAP; i++) {
            write(wrapped(to + i), read(wrapped(from + i)));
        }
    }

    private void jumpByAccumulator(int ac, int e) {
        if (ac == 0) {
            pc = e;
        } else if (ac == 1) {
            pc = e;
            user = true;
        } else if (ac == 4 && !user) {
            pc = e;
            stopped = true;
        } else {
            raise(TRAP_OPERATION);
        }
    }

    // Stacks

    private void moveHalves(int ac, int by) {
        long word = words[ac];
        setAccumulator(ac, joined(wrapped(left(word) + by), wrapped(right(word) + by)));
    }

    private void growStack(int ac) {
        moveHalves(ac, 1);
        if (left(words[ac]) == 0) {
            setOverflow();
        }
    }

    private void shrinkStack(int ac) {
        moveHalves(ac, -1);
        if (left(words[ac]) == HALF) {
            setOverflow();
        }
    }

    private void stack(int op, int ac, int e) {
        switch (op) {
            case 0260:
                growStack(ac);
                write(right(words[ac]), pcWord());
                pc = e;
                return;
            case 0261:
                growStack(ac);
                write(right(words[ac]), read(e));
                return;
            case 0262:
                write(e, read(right(words[ac])));
                shrinkStack(ac);
                return;
            case 0263:
                pc = right(read(right(words[ac])));
                shrinkStack(ac);
                return;
            case 0264:
                write(e, pcWord());
                pc = wrapped(e + 1);
                return;
            case 0265:
                setAccumulator(ac, pcWord());
                pc = e;
                return;
            default:
                raise(TRAP_OPERATION);
        }
    }

    // Bytes

    private void bytes(int op, int ac, int e) {
        if (op < 0133) {
            raise(TRAP_OPERATION);
            return;
        }
        if (op == 0133 || op == 0134 || op == 0136) {
            advancePointer(e);
        }
        if (op == 0133) {
            return;
        }
        long pointer = read(e);
        int address = effective(pointer);
        if (op == 0134 || op == 0135) {
            loadByte(ac, pointer, address);
        } else {
            depositByte(ac, pointer, address);
        }
    }

    private static int position(long pointer) {
        return (int) (pointer >>> 30) & 077;
    }

    private static int size(long pointer) {
        return (int) (pointer >>> 24) & 077;
    }

    private static long byteMask(long pointer) {
        return (1L << Math.min(size(pointer), WORD_BITS)) - 1;
    }

    private void advancePointer(int e) {
        long pointer = read(e);
        int position = position(pointer) - size(pointer);
        int y = right(pointer);
        if (position < 0) {
            y = wrapped(y + 1);
            position = Math.max(WORD_BITS - size(pointer), 0);
        }
        int kept = left(pointer) & 07777;
        write(e, joined(position << 12 | kept, y));
    }

    private void loadByte(int ac, long pointer, int address) {
        long word = read(address);
        setAccumulator(ac, word >>> position(pointer) & byteMask(pointer));
    }

    private void depositByte(int ac, long pointer, int address) {
        long word = read(address);
        long mask = byteMask(pointer) << position(pointer) & WORD;
        write(address, (word & ~mask) | (words[ac] << position(pointer) & mask));
    }
}
