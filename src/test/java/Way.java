/**
 * The ways in which a step comes to an address of the store. Each lies in accumulator 4 (but for the
 * instruction itself), and uses the accumulators 1, 2 and 5.
 */
enum Way {
    INSTRUCTION, INDIRECT, EXECUTE, READ, WRITE, READ_AND_WRITE, EXCHANGE, COUNT, TEST, LOGIC, HALVES,
    PUSH, PUSH_FROM, POP, POP_TO, CALL, RETURN, PC_WORD, BLOCK_FROM, BLOCK_TO,
    POINTER, POINTER_AND_BYTE, BYTE, BYTE_STORED, BYTE_INDIRECT;

    private static final int INSIDE = 5;

    /** Whether the way leads to the address: a step that does not traps with 1. */
    boolean reaches(Bench b, int address, boolean user) {
        b.put(1, 0).put(2, 0).put(INSIDE, 0);
        if (this == INSTRUCTION) {
            b.goFrom(address, user, 1);
        } else {
            b.put(4, prepared(b, address)).goFrom(4, user, 1);
        }
        int trap = b.trap();
        // What lies at the address is no instruction in most cases, so these two may trap with 2 or 4.
        boolean mayDoMore = this == INSTRUCTION || this == EXECUTE;
        if (trap != 0 && trap != 1 && !mayDoMore) {
            Check.same(this + " of " + address + ": trap", trap, 1);
        }
        return trap != 1;
    }

    private long prepared(Bench b, int address) {
        switch (this) {
            case INDIRECT:
                return Bench.code(0201, 1, 1, 0, address);
            case EXECUTE:
                return Bench.code(0256, 0, address);
            case READ:
                return Bench.code(0200, 1, address);
            case WRITE:
                return Bench.code(0202, 1, address);
            case READ_AND_WRITE:
                return Bench.code(0273, 1, address);
            case EXCHANGE:
                return Bench.code(0250, 1, address);
            case COUNT:
                return Bench.code(0350, 1, address);
            case TEST:
                return Bench.code(0610, 1, address);
            case LOGIC:
                return Bench.code(0436, 1, address);
            case HALVES:
                return Bench.code(0542, 1, address);
            default:
                return preparedByAccumulator(b, address);
        }
    }

    private long preparedByAccumulator(Bench b, int address) {
        switch (this) {
            case PUSH:
                b.put(2, Bench.word(0, address - 1));
                return Bench.code(0261, 2, INSIDE);
            case PUSH_FROM:
                return Bench.code(0261, 2, address);
            case POP:
                b.put(2, Bench.word(5, address));
                return Bench.code(0262, 2, INSIDE);
            case POP_TO:
                b.put(2, Bench.word(5, INSIDE));
                return Bench.code(0262, 2, address);
            case CALL:
                b.put(2, Bench.word(0, address - 1));
                return Bench.code(0260, 2, 0);
            case RETURN:
                b.put(2, Bench.word(5, address));
                return Bench.code(0263, 2, 0);
            case PC_WORD:
                return Bench.code(0264, 0, address);
            case BLOCK_FROM:
                b.put(2, Bench.word(address, INSIDE));
                return Bench.code(0251, 2, INSIDE);
            case BLOCK_TO:
                b.put(2, Bench.word(INSIDE, address));
                return Bench.code(0251, 2, address);
            case POINTER:
                return Bench.code(0133, 0, address);
            case POINTER_AND_BYTE:
                // The pointer that is found is 0: a byte of no bits in accumulator 0.
                return Bench.code(0135, 1, address);
            case BYTE:
                b.put(2, Bench.pointer(0, 6, 0, 0, address));
                return Bench.code(0135, 1, 2);
            case BYTE_STORED:
                b.put(2, Bench.pointer(0, 6, 0, 0, address));
                return Bench.code(0137, 1, 2);
            default:
                b.put(2, Bench.pointer(0, 6, 1, 0, address));
                return Bench.code(0135, 1, 2);
        }
    }
}
