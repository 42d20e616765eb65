import java.lang.reflect.Field;

/** Promise 14: none is astray in any run of calls; what is made so by force is counted. */
final class AstrayTest {
    public static void main(String[] args) throws ReflectiveOperationException {
        neverAstray();
        int[][] forced = {
            // field of the disk, index, value, pages that are astray then
            {0, 1 * 5 + 0, 99, 1},
            {0, 1 * 5 + 1, 2, 1},
            {0, 0 * 5 + 0, 7, 1},
            {0, 2 * 5 + 1, 1000, 1},
            {1, 2 * 5 + 1, 0, 1},
            {2, 0, 3, 1},
        };
        for (int[] force : forced) {
            forced(force[0], force[1], force[2], force[3]);
        }
        frameTwice();
        Check.end();
    }

    private static void neverAstray() {
        PagedTree tree = new PagedTree();
        Check.due("astray of a new object", tree.astray(), 0);
        for (int i = 0; i < 120; i++) {
            int key = i * 37 % 101;
            try {
                tree.put(key, i);
            } catch (UnsupportedOperationException e) {
                tree.remove(key + 1);
            }
            Check.due("astray", tree.astray(), 0);
        }
        for (int key = 101; key >= 0; key--) {
            tree.remove(key);
            Check.due("astray", tree.astray(), 0);
        }
    }

    private static Object part(Object of, String name) throws ReflectiveOperationException {
        Field field = of.getClass().getDeclaredField(name);
        field.setAccessible(true);
        return field.get(of);
    }

    /** Leaves 0 with 1 2, and 1 with 3 4 5; root 2. */
    private static void forced(int row, int index, int value, int least) throws ReflectiveOperationException {
        PagedTree tree = Trees.rising(1, 5);
        String name = new String[] {"keys", "seconds", "leavesAfter"}[row];
        int[] cells = (int[]) part(part(tree, "disk"), name);
        cells[index] = value;
        Check.due("at least so many astray with " + name + "[" + index + "] = " + value, tree.astray() >= least, true);
    }

    private static void frameTwice() throws ReflectiveOperationException {
        PagedTree tree = Trees.rising(1, 5);
        int[] held = (int[]) part(part(tree, "frames"), "held");
        held[7] = 1;
        Check.due("astray with page 1 in two frames", tree.astray(), 1);
        held[7] = 20;
        Check.due("astray with a free page in a frame", tree.astray(), 1);
    }
}
