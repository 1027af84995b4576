/** Counts answers, prints those that are not the ones due, and ends a test with exit code 1 if there was one. */
final class Check {
    private static int right = 0;
    private static int wrong = 0;
    private static String sentence = "";

    private Check() {
    }

    /** The document's sentence that the next answers are held to: told with every wrong one. */
    static void sentence(String text) {
        sentence = "\"" + text + "\": ";
    }

    static void same(String what, long got, long due) {
        if (got == due) {
            right++;
            return;
        }
        wrong++;
        System.out.println(sentence + what + " answered " + got + " (0" + Long.toOctalString(got) + "), due is "
            + due + " (0" + Long.toOctalString(due) + ")");
    }

    static void same(String what, boolean got, boolean due) {
        same(what, got ? 1 : 0, due ? 1 : 0);
    }

    static void end() {
        System.out.println(right + " answers as due, " + wrong + " not");
        if (wrong != 0) {
            System.exit(1);
        }
    }
}
