/** Counts and prints what is not as due; finish ends a test with exit code 1 if there was anything. */
final class Check {
    interface Call {
        int answer();
    }

    private static int wrong = 0;
    private static int done = 0;
    private static String sentence = "";

    private Check() {
    }

    /** The sentence of the document that the checks from here on are about. */
    static void about(String words) {
        sentence = "(" + words + ") ";
    }

    static void same(String what, Object got, Object due) {
        done++;
        if (!due.equals(got)) {
            wrong++;
            System.out.println(sentence + what + ": got " + got + ", due is " + due);
        }
    }

    /** The very exception that is due, not a kind of it. */
    static void refused(String what, Class<? extends RuntimeException> due, Call call) {
        String got;
        try {
            got = "the answer " + call.answer();
        } catch (RuntimeException e) {
            got = e.getClass().getName();
        }
        same(what, got, due.getName());
    }

    static void finish() {
        System.out.println(done + " checks, " + wrong + " wrong");
        if (wrong != 0 || done == 0) {
            System.exit(1);
        }
    }
}
