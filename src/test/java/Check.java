/** Counts the answers that are not the ones that are due; shared by the tests. */
final class Check {
    interface Call {
        long run();
    }

    private static int wrong = 0;
    private static int seen = 0;
    private static String heading = "";

    private Check() {
    }

    /** What stands ahead of each failure from here on. */
    static void under(String text) {
        heading = text.isEmpty() ? "" : "[" + text + "] ";
    }

    static int seen() {
        return seen;
    }

    static void due(String what, long want, long got) {
        seen++;
        if (want != got) {
            fail(what, Long.toString(want), Long.toString(got));
        }
    }

    static void dueShare(String what, double want, double got) {
        seen++;
        if (want != got) {
            fail(what, Double.toString(want), Double.toString(got));
        }
    }

    static void same(String what, String want, String got) {
        seen++;
        if (!want.equals(got)) {
            fail(what, want, got);
        }
    }

    private static void fail(String what, String want, String got) {
        wrong++;
        System.out.println(heading + what + ": due is " + want + ", the answer is " + got);
    }

    /** The call throws just this class, no subclass of the machine's, and changes nothing. */
    static void refused(TickForms form, String what, Class<?> want, Call call) {
        long before = form.digest();
        same(what, want.getName(), outcome(call));
        due(what + ": digest kept", before, form.digest());
    }

    /** The answer as a text, or the name of what the call throws. */
    static String outcome(Call call) {
        try {
            return Long.toString(call.run());
        } catch (RuntimeException e) {
            return e.getClass().getName();
        }
    }

    static void end(String name) {
        System.out.println(name + ": " + seen + " answers, " + wrong + " of them wrong");
        if (wrong != 0 || seen == 0) {
            System.exit(1);
        }
    }
}
