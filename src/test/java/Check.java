/** Counts answers that are not the ones that are due, for the tests of this project. */
final class Check {
    private static int wrong = 0;

    /** A call that may throw. */
    interface Call {
        void run();
    }

    private Check() {
    }

    static void due(String what, int got, int want) {
        if (got != want) {
            wrong++;
            System.out.println(what + " answered " + got + ", due is " + want);
        }
    }

    static void due(String what, boolean got, boolean want) {
        if (got != want) {
            wrong++;
            System.out.println(what + " answered " + got + ", due is " + want);
        }
    }

    static void dueText(String what, String got, String want) {
        if (!got.equals(want)) {
            wrong++;
            System.out.println(what + " answered\n" + got + "due is\n" + want);
        }
    }

    /** The call throws this very class, and leaves all that the object shows as it was. */
    static void throwsAnd(PagedTree tree, String what, Class<?> due, Call call) {
        String before = State.of(tree);
        String thrown = "nothing";
        try {
            call.run();
        } catch (RuntimeException e) {
            thrown = e.getClass().getName();
        }
        dueText(what + " throws", thrown + "\n", due.getName() + "\n");
        dueText(what + " leaves", State.of(tree), before);
    }

    static void end() {
        System.out.println(wrong == 0 ? "all answers are as due" : wrong + " answers are not as due");
        if (wrong != 0) {
            System.exit(1);
        }
    }
}
