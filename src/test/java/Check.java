/** Counts the answers that are as due and the others, and tells each of the others. */
final class Check {
    private static int passed = 0;
    private static int failed = 0;

    private Check() {
    }

    static void same(String what, long got, long due) {
        count(what, got == due, Long.toString(got), Long.toString(due));
    }

    static void same(String what, double got, double due) {
        count(what, Double.compare(got, due) == 0, Double.toString(got), Double.toString(due));
    }

    static void same(String what, String got, String due) {
        count(what, got.equals(due), got, due);
    }

    static void holds(String what, boolean got) {
        count(what, got, "false", "true");
    }

    static void fails(String what, Class<? extends RuntimeException> due, Runnable call) {
        count(what, thrownBy(call).equals(due.getSimpleName()), thrownBy(call), due.getSimpleName());
    }

    /** For calls that change something even when they throw, and so must not be made twice. */
    static void failsOnce(String what, Class<? extends RuntimeException> due, Runnable call) {
        String got = thrownBy(call);
        count(what, got.equals(due.getSimpleName()), got, due.getSimpleName());
    }

    static void rejects(String what, SighGranary granary, int reason, int detail, Runnable call) {
        failsOnce(what, UnsupportedOperationException.class, call);
        same(what + ": reason", granary.rejectionReason(), reason);
        same(what + ": detail", granary.rejectionDetail(), detail);
    }

    private static String thrownBy(Runnable call) {
        try {
            call.run();
            return "nothing";
        } catch (RuntimeException thrown) {
            return thrown.getClass().getSimpleName();
        }
    }

    private static void count(String what, boolean right, String got, String due) {
        if (right) {
            passed++;
        } else {
            failed++;
            System.out.println(what + " answered " + got + ", due is " + due);
        }
    }

    /** Ends the test's program: with exit code 1 if an answer was not as due, or none was looked at. */
    static void end() {
        System.out.println(passed + " answers as due, " + failed + " not as due");
        if (failed > 0 || passed == 0) {
            System.exit(1);
        }
    }

    static String outputOf(SighGranary granary, int length) {
        StringBuilder text = new StringBuilder();
        for (int index = 0; index < length; index++) {
            text.append(granary.outputAt(index));
        }
        return text.toString();
    }

    static void type(SighGranary granary, String text) {
        for (int index = 0; index < text.length(); index++) {
            granary.appendInput(text.charAt(index));
        }
    }

    static int run(SighGranary granary, String text) {
        type(granary, text);
        return granary.execute();
    }
}
