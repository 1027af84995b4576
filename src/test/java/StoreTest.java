/** Promises 2, 3 and 4. */
public final class StoreTest {
    private static final int[] NO_PLACES = {-1, 1024, 1025, Integer.MIN_VALUE, Integer.MAX_VALUE, -1024, 65536};

    public static void main(String[] args) {
        wordsAreKept();
        onlyTheLowestBitsAreKept();
        noSuchPlace();
        accumulatorsArePlaces();
        Check.end();
    }

    private static void wordsAreKept() {
        for (int place : new int[] {0, 1, 017, 020, 040, 0777, 01776, 01777}) {
            WordMachine x = new WordMachine();
            for (long word : Bench.EDGES) {
                Check.same("deposit", x.deposit(place, word), true);
                Check.same("examine(" + place + ")", x.examine(place), word);
                Check.same("number(" + place + ")", x.number(place), Bench.number(word));
                if (place > 0) {
                    Check.same("the place before " + place, x.examine(place - 1), 0);
                }
                if (place < 01777) {
                    Check.same("the place behind " + place, x.examine(place + 1), 0);
                }
            }
        }
    }

    private static void onlyTheLowestBitsAreKept() {
        WordMachine x = new WordMachine();
        Check.same("deposit(3, -1)", x.deposit(3, -1), true);
        Check.same("examine(3) of -1", x.examine(3), 68719476735L);
        Check.same("number(3) of -1", x.number(3), -1);
        x.deposit(3, 1L << 36);
        Check.same("examine(3) of 2 to the 36th", x.examine(3), 0);
        x.deposit(3, Long.MIN_VALUE);
        Check.same("examine(3) of the least long", x.examine(3), 0);
        x.deposit(3, Long.MAX_VALUE);
        Check.same("examine(3) of the greatest long", x.examine(3), Bench.WORD);
        x.deposit(3, 1L << 35);
        Check.same("examine(3) of 2 to the 35th", x.examine(3), 1L << 35);
        Check.same("number(3) of 2 to the 35th", x.number(3), -(1L << 35));
        x.deposit(3, (1L << 35) - 1);
        Check.same("number(3) of the greatest", x.number(3), (1L << 35) - 1);
        x.deposit(3, -(1L << 35) - 1);
        Check.same("number(3) of one below the least", x.number(3), (1L << 35) - 1);
    }

    private static void noSuchPlace() {
        WordMachine x = new WordMachine();
        x.deposit(0, 5);
        x.deposit(1023, 6);
        for (int place : NO_PLACES) {
            Check.same("deposit(" + place + ")", x.deposit(place, 9), false);
            Check.same("examine(" + place + ")", x.examine(place), -1);
            Check.same("number(" + place + ")", x.number(place), 0);
        }
        Check.same("place 0 after refusals", x.examine(0), 5);
        Check.same("place 1023 after refusals", x.examine(1023), 6);
        Check.same("steps after refusals", x.look(4), 0);
    }

    private static void accumulatorsArePlaces() {
        Bench b = new Bench().go(Bench.code(0201, 017, 0123));
        Check.same("accumulator 017", b.at(017), 0123);
        b = new Bench().put(017, 5).go(Bench.code(0202, 017, Bench.E));
        Check.same("from accumulator 017", b.at(Bench.E), 5);
    }
}
