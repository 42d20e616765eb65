/** Counts answers that are not the ones that are due, for the tests of this project. */
final class Check {
    private static int wrong = 0;
    /** The document's words that the answers now looked at belong to. */
    private static String sentence = "";

    /** A call that may throw. */
    interface Call {
        void run();
    }

    private Check() {
    }

    /** What is looked at from now on is said by these words of the document. */
    static void sentence(String words) {
        sentence = "\"" + words + "\": ";
    }

    static void due(String what, int got, int want) {
        if (got != want) {
            wrong(what + " answered " + got + ", due is " + want);
        }
    }

    static void due(String what, boolean got, boolean want) {
        if (got != want) {
            wrong(what + " answered " + got + ", due is " + want);
        }
    }

    static void dueText(String what, String got, String want) {
        if (!got.equals(want)) {
            wrong(what + " answered\n" + got + "due is\n" + want);
        }
    }

    private static void wrong(String text) {
        wrong++;
        System.out.println(sentence + text);
    }

    /** The call throws this very class, and leaves all that the object shows as it was. */
    static void throwsAnd(PagedTree tree, String what, Class<?> due, Call call) {
        String before = State.of(tree);
        String thrown = "nothing";
        try {
            call.run();
        } catch (RuntimeException e) {
            thrown = e.getClass().getName();
        }
        dueText(what + " throws", thrown + "\n", due.getName() + "\n");
        dueText(what + " leaves", State.of(tree), before);
    }

    static void end() {
        System.out.println(wrong == 0 ? "all answers are as due" : wrong + " answers are not as due");
        if (wrong != 0) {
            System.exit(1);
        }
    }
}
