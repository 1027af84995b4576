/** The examples of README.md answer what it says, and its table tells what refused calls answer. */
public final class ReadmeTest {
    public static void main(String[] args) {
        firstExample();
        userThatTraps();
        refusedCalls();
        Check.end();
    }

    private static void firstExample() {
        WordMachine machine = new WordMachine();
        machine.deposit(0100, 0201040000005L);
        machine.deposit(0101, 0254200000000L);
        machine.start(0100, false);
        Check.same("steps", machine.run(100), 2);
        Check.same("five", machine.number(1), 5);
        Check.same("stopped", machine.look(3), 1);
    }

    private static void userThatTraps() {
        WordMachine machine = new WordMachine();
        machine.segment(0, 0400, 0200);
        machine.deposit(0500, 0200040000200L);
        machine.deposit(041, 0254200000000L);
        machine.start(0100, true);
        Check.same("steps", machine.run(100), 2);
        Check.same("code", machine.look(6), 1);
        Check.same("told", machine.examine(040), 0010001000100L);
    }

    private static void refusedCalls() {
        WordMachine machine = new WordMachine();
        Check.same("deposit", machine.deposit(02000, 1), false);
        Check.same("examine", machine.examine(02000), -1);
        Check.same("number", machine.number(02000), 0);
        Check.same("segment", machine.segment(2, 0, 0), false);
        Check.same("run", machine.run(101), -1);
        Check.same("look", machine.look(7), -1);
    }
}
