/** Counts what is not as due, prints it, and ends a test. */
final class Check {
    private static int wrong = 0;
    private static int looked = 0;
    private static int sentences = 0;
    private static String place = "";

    private Check() {
    }

    /** A call that may throw. */
    interface Call {
        long answer();
    }

    /** The test of one sentence of the document; if it breaks off, the tests of the other sentences still go on. */
    static void sentence(String sentence, Runnable test) {
        sentences++;
        place = "\"" + sentence + "\": ";
        int before = looked;
        try {
            test.run();
        } catch (RuntimeException | Error e) {
            report("the test broke off with " + e);
        }
        if (looked == before) {
            report("nothing was looked at");
        }
        place = "";
    }

    static void due(String what, long got, long want) {
        looked++;
        if (got != want) {
            report(what + " answered " + got + ", due is " + want);
        }
    }

    static void due(String what, String got, String want) {
        looked++;
        if (!got.equals(want)) {
            report(what + " answered " + got + ", due is " + want);
        }
    }

    /** The very class is due: one derived from it is another exception than the document's. */
    static void throwing(String what, Class<? extends RuntimeException> want, Call call) {
        due(what, told(call), "throws." + want.getSimpleName());
    }

    /** The answer of a call as a text, or what it throws. */
    static String told(Call call) {
        try {
            return Long.toString(call.answer());
        } catch (RuntimeException e) {
            return "throws." + e.getClass().getSimpleName();
        }
    }

    static void end(String test) {
        String tested = sentences == 0 ? "" : sentences + " sentences, ";
        System.out.println(test + ": " + tested + looked + " answers looked at, " + wrong + " not as due");
        if (wrong != 0) {
            System.exit(1);
        }
    }

    private static void report(String line) {
        wrong++;
        // A broken program can be wrong thousands of times: the first lines tell enough.
        if (wrong <= 50) {
            System.out.println(place + line);
        }
    }
}
