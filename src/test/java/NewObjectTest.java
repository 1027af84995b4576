/** Promise 1. */
public final class NewObjectTest {
    public static void main(String[] args) {
        allIsZero();
        segmentsAreEmpty();
        objectsAreApart();
        Check.end();
    }

    private static void allIsZero() {
        WordMachine x = new WordMachine();
        for (int place = 0; place < 500; place++) {
            Check.same("examine(" + place + ")", x.examine(place), 0);
        }
        WordMachine y = new WordMachine();
        for (int place = 500; place < 1000; place++) {
            Check.same("examine(" + place + ")", y.examine(place), 0);
        }
        WordMachine z = new WordMachine();
        for (int place = 1000; place < 1024; place++) {
            Check.same("examine(" + place + ")", z.examine(place), 0);
        }
        for (int what = 0; what <= 6; what++) {
            Check.same("look(" + what + ")", z.look(what), 0);
        }
    }

    private static void segmentsAreEmpty() {
        for (int pc : new int[] {020, 0400000}) {
            WordMachine x = new WordMachine();
            x.start(pc, true);
            Check.same("run(1) in USER at " + pc, x.run(1), 1);
            Check.same("trap in USER at " + pc, x.look(6), 1);
        }
    }

    private static void objectsAreApart() {
        WordMachine x = new WordMachine();
        WordMachine y = new WordMachine();
        x.deposit(5, 7);
        x.start(9, true);
        Check.same("examine(5) of another", y.examine(5), 0);
        Check.same("PC of another", y.look(0), 0);
        Check.same("MODE of another", y.look(1), 0);
    }
}
