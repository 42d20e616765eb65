import java.lang.reflect.Field;

/** Promise 14: none is astray in any run of calls; what is made so by force is counted. */
final class AstrayTest {
    /** Rows of the disk. */
    private static final int KEYS = 0;
    private static final int SECONDS = 1;
    private static final int NEXT_LEAVES = 2;
    private static final int COUNTS = 3;
    private static final int KINDS = 4;
    private static final String[] ROWS = {"keys", "seconds", "leavesAfter", "counts", "kinds"};

    public static void main(String[] args) throws ReflectiveOperationException {
        Check.sentence("For how many pages what is said of them is not so: children, keys out of their place, frames twice.");
        neverAstray();
        keysOutOfPlace();
        children();
        kindsAndCounts();
        nextLeaves();
        frames();
        Check.end();
    }

    /** Leaf 0 has 0 and 10; leaf 1 has the mark 20, and leaf 3 the mark 40. */
    private static void keysOutOfPlace() throws ReflectiveOperationException {
        forced("a key as high as the next leaf's mark", KEYS, 0 * 5 + 1, 20, 1);
        forced("a key below that mark", KEYS, 0 * 5 + 1, 19, 0);
        forced("a key below its leaf's mark", KEYS, 1 * 5 + 0, 19, 1);
        forced("a key twice", KEYS, 1 * 5 + 1, 20, 1);
        forced("a key below the one before", KEYS, 0 * 5 + 1, -1, 1);
        forced("a mark as high as the next mark", KEYS, 2 * 5 + 1, 40, 2);
        forced("the least key of all", KEYS, 0 * 5 + 0, Integer.MIN_VALUE, 0);
        forced("the greatest key of all", KEYS, 3 * 5 + 2, Integer.MAX_VALUE, 0);
    }

    private static void children() throws ReflectiveOperationException {
        // Leaf 1 is a child twice, and leaf 3 none.
        forced("a child twice", SECONDS, 2 * 5 + 2, 1, 2);
        // Page 9 is free and a child, 2 has it, 3 is none; leaf 1 tells 3.
        forced("a child that is free", SECONDS, 2 * 5 + 2, 9, 4);
        forced("a first child that is free", SECONDS, 2 * 5 + 0, 9, 3);
        forced("a child that is no page", SECONDS, 2 * 5 + 2, 40, 3);
    }

    private static void kindsAndCounts() throws ReflectiveOperationException {
        forced("a leaf of one", COUNTS, 0, 1, 1);
        forced("a leaf of five", COUNTS, 0, 5, 1);
        forced("an inner page where leaves are", KINDS, 3, 2, -1);
    }

    private static void nextLeaves() throws ReflectiveOperationException {
        forced("a leaf that leaves out one", NEXT_LEAVES, 0, 3, 1);
        forced("a last leaf that tells one", NEXT_LEAVES, 3, 0, 1);
        forced("an inner page that tells one", NEXT_LEAVES, 2, 0, 1);
    }

    private static void neverAstray() {
        PagedTree tree = new PagedTree();
        Check.due("astray of a new object", tree.astray(), 0);
        for (int i = 0; i < 120; i++) {
            int key = i * 37 % 101;
            try {
                tree.put(key, i);
            } catch (UnsupportedOperationException e) {
                tree.remove(key + 1);
            }
            Check.due("astray", tree.astray(), 0);
        }
        for (int key = 101; key >= 0; key--) {
            tree.remove(key);
            Check.due("astray", tree.astray(), 0);
        }
    }

    private static Object part(Object of, String name) throws ReflectiveOperationException {
        Field field = of.getClass().getDeclaredField(name);
        field.setAccessible(true);
        return field.get(of);
    }

    /** Leaves 0 with 0 and 10, 1 with 20 and 30, 3 with 40, 50 and 60; root 2. Due below 0: any but none. */
    private static void forced(String what, int row, int index, int value, int due) throws ReflectiveOperationException {
        PagedTree tree = Trees.tens(6);
        int[] cells = (int[]) part(part(tree, "disk"), ROWS[row]);
        cells[index] = value;
        int astray = tree.astray();
        Check.due("astray with " + what, due < 0 && astray > 0 ? due : astray, due);
    }

    private static void frames() throws ReflectiveOperationException {
        PagedTree tree = Trees.tens(6);
        int[] held = (int[]) part(part(tree, "frames"), "held");
        held[7] = 1;
        Check.due("astray with page 1 in two frames", tree.astray(), 1);
        held[0] = 1;
        Check.due("astray with page 1 in three", tree.astray(), 1);
        held[0] = 3;
        Check.due("astray with pages 1 and 3 in two each", tree.astray(), 2);
        held[0] = 0;
        held[7] = 20;
        Check.due("astray with a free page in a frame", tree.astray(), 1);
    }
}
