import java.util.TreeMap;

/** Long mixed runs of calls, each answer and all that shows compared with the model's. */
final class ModelTest {
    private static final String[] MUST_BE_SEEN = {
        "leaf splits", "inner splits", "root splits", "root goes", "put throws",
        "left leaf gives", "right leaf gives", "left inner gives", "right inner gives",
        "leaf joins its left one", "leaf joins its right one",
        "inner joins its left one", "inner joins its right one",
        "hand passes a pinned frame", "dirty page leaves", "clean page leaves",
        "seek in the next leaf", "next in the next leaf",
    };

    private long seed;

    private ModelTest(long seed) {
        this.seed = seed;
    }

    private int below(int bound) {
        seed = seed * 6364136223846793005L + 1442695040888963407L;
        return (int) ((seed >>> 33) % bound);
    }

    public static void main(String[] args) {
        TreeMap<String, Integer> seen = new TreeMap<>();
        for (int run = 0; run < 1200; run++) {
            Model model = new ModelTest(run * 7919L + 1).play(run);
            model.seen.forEach((what, count) -> seen.merge(what, count, Integer::sum));
        }
        for (String what : MUST_BE_SEEN) {
            Check.due("runs in which is seen: " + what, seen.containsKey(what), true);
        }
        Check.end();
    }

    private Model play(int run) {
        PagedTree tree = new PagedTree();
        Model model = new Model();
        int span = new int[] {12, 60, 150, 400}[run % 4];
        int phase = 20 + below(120);
        for (int call = 0; call < 512; call++) {
            boolean growing = call / phase % 2 == 0;
            String text = step(call, growing, span, tree, model);
            String[] parts = text.split("\n");
            Check.dueText("run " + run + " call " + call + " " + parts[0], parts[1] + "\n", parts[2] + "\n");
            Check.dueText("run " + run + " after call " + call + " " + parts[0], State.of(tree), model.state());
            Check.due("run " + run + " astray after call " + call, tree.astray(), 0);
        }
        return model;
    }

    /** The call, what the tree and what the model answered, a line each. */
    private String step(int call, boolean growing, int span, PagedTree tree, Model model) {
        int key = below(span) - span / 2;
        int dice = below(100);
        if (dice < 60) {
            boolean puts = growing == (below(10) < 8);
            return puts
                ? "put " + key + "\n" + of(() -> tree.put(key, call)) + of(() -> model.put(key, call))
                : "remove " + key + "\n" + of(() -> tree.remove(key)) + of(() -> model.remove(key));
        }
        if (dice < 70) {
            return "get " + key + "\n" + of(() -> tree.get(key)) + of(() -> model.get(key));
        }
        if (dice < 78) {
            return "seek " + key + "\n" + of(() -> tree.seek(key)) + of(() -> model.seek(key));
        }
        if (dice < 95) {
            return "next\n" + of(() -> tree.next()) + of(() -> model.next());
        }
        return dice < 98
            ? "flush\n" + of(() -> tree.flush()) + of(() -> model.flush())
            : "drop\n" + of(() -> tree.drop()) + of(() -> model.drop());
    }

    /** A call that answers something. */
    private interface Answer {
        Object get();
    }

    private static String of(Answer answer) {
        try {
            return answer.get() + "\n";
        } catch (RuntimeException e) {
            return "throws." + e.getClass().getSimpleName() + "\n";
        }
    }
}
