/** What the tests have in common: they compare answers with those that are due, and count the wrong ones. */
final class Due {
    /** A call of the house, with its answer. */
    interface Call {
        long answer();
    }

    private static int checks = 0;
    private static int wrong = 0;

    private Due() {
    }

    static void is(String what, long answer, long due) {
        checks++;
        if (answer != due) {
            report(what + " answered " + answer + ", due is " + due);
        }
    }

    /** The same to the last bit, as the document says how the number is made. */
    static void isExactly(String what, double answer, double due) {
        checks++;
        if (Double.doubleToLongBits(answer) != Double.doubleToLongBits(due)) {
            report(what + " answered " + answer + ", due is " + due);
        }
    }

    /** The call throws an exception of just that class, and the house is as before. */
    static void fails(String what, GlossaryCrown house, Class<?> due, Call call) {
        checks++;
        long before = house.digest();
        String seen = "the answer ";
        try {
            seen += call.answer();
        } catch (RuntimeException e) {
            seen = e.getClass().getName();
        }
        if (!seen.equals(due.getName())) {
            report(what + " gave " + seen + ", due is " + due.getName());
        }
        if (house.digest() != before) {
            report(what + " changed the house");
        }
    }

    static void report(String text) {
        wrong++;
        if (wrong <= 40) {
            System.out.println("  " + text);
        }
    }

    /** Ends the test. */
    static void close(String test) {
        System.out.println(test + ": " + checks + " checks, " + wrong + " wrong");
        if (wrong != 0 || checks == 0) {
            System.exit(1);
        }
    }
}
