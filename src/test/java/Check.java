/** Counts and prints the answers that are not the ones that are due. */
final class Check {
    private static int wrong = 0;
    private static String sentence = "";

    private Check() {
    }

    /** Names the document's sentence that the checks from here on hold the program to. */
    static void sentence(String words) {
        sentence = words;
    }

    static void same(String what, long got, long due) {
        if (got != due) {
            report(what + " answered " + got + ", due is " + due);
        }
    }

    static void yes(String what, boolean got) {
        same(what, got ? 1 : 0, 1);
    }

    static void no(String what, boolean got) {
        same(what, got ? 1 : 0, 0);
    }

    static void thrown(String what, Class<? extends RuntimeException> due, Runnable call) {
        try {
            call.run();
            report(what + " threw nothing, due is " + due.getSimpleName());
        } catch (RuntimeException e) {
            if (e.getClass() != due) {
                report(what + " threw " + e + ", due is " + due.getSimpleName());
            }
        }
    }

    static void report(String text) {
        wrong++;
        System.out.println(text + (sentence.isEmpty() ? "" : " (\"" + sentence + "\")"));
    }

    /** To be called last by every test. */
    static void end() {
        if (wrong != 0) {
            System.out.println(wrong + " answers are not as due");
            System.exit(1);
        }
    }
}
