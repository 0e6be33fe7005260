/** Counts checks, and prints those that fail. */
final class Checks {

    /** A call on the class under test, its answer as a long (a boolean as 1 or 0). */
    interface Call {
        long make();
    }

    private int passed;
    private int failed;
    private String sentence = "";

    /** The sentence of the document that the checks behind it are about. */
    void about(String words) {
        sentence = "[" + words + "] ";
    }

    void equal(String what, long got, long want) {
        if (got == want) {
            passed++;
        } else {
            fail(what + " answered " + got + ", due is " + want);
        }
    }

    void same(String what, String got, String want) {
        if (got.equals(want)) {
            passed++;
        } else {
            fail(what + ": " + got + ", due is: " + want);
        }
    }

    private void fail(String text) {
        failed++;
        System.out.println(sentence + text);
    }

    void yes(String what, boolean got) {
        equal(what, got ? 1 : 0, 1);
    }

    void no(String what, boolean got) {
        equal(what, got ? 1 : 0, 0);
    }

    /** The very class, not one above or below it, and thrown by a throw statement. */
    void thrown(String what, Class<? extends RuntimeException> want, Call call) {
        String got;
        try {
            got = "answered " + call.make();
        } catch (RuntimeException e) {
            String text = e.getMessage();
            // The machine's own texts: the class must throw by itself before the machine does.
            boolean own = text != null && !text.startsWith("Index ") && !text.equals("/ by zero");
            if (e.getClass() == want && own) {
                passed++;
                return;
            }
            got = "threw " + e;
        }
        fail(what + " " + got + ", due is " + want.getSimpleName());
    }

    void illegalArgument(String what, Call call) {
        thrown(what, IllegalArgumentException.class, call);
    }

    void illegalState(String what, Call call) {
        thrown(what, IllegalStateException.class, call);
    }

    /** Ends the program: with exit code 1 if a check failed. */
    void finish() {
        System.out.println(passed + " checks held, " + failed + " did not");
        if (failed != 0) {
            System.exit(1);
        }
    }
}
