/** Promises 10, 11 and 13. */
final class LookTest {
    private static final int[] NO_PAGES = {-1, 40, Integer.MIN_VALUE, Integer.MAX_VALUE};

    public static void main(String[] args) {
        pages();
        items();
        told();
        looksChangeNothing();
        Check.end();
    }

    private static void pages() {
        PagedTree tree = Trees.rising(1, 5);
        int[][] due = {{1, 2, 1}, {1, 3, -1}, {2, 2, -1}, {0, 0, -1}};
        for (int page = 0; page < due.length; page++) {
            for (int what = 0; what < 3; what++) {
                Check.due("page(" + page + ", " + what + ")", tree.page(page, what), due[page][what]);
            }
        }
        Check.due("the last page", tree.page(39, 0), 0);
        for (int page : NO_PAGES) {
            for (int what : new int[] {-1, 0, 1, 2, 3}) {
                Check.throwsAnd(tree, "page(" + page + ", " + what + ")", IndexOutOfBoundsException.class,
                    () -> tree.page(page, what));
            }
        }
        for (int what : new int[] {-1, 3, Integer.MIN_VALUE, Integer.MAX_VALUE}) {
            for (int page : new int[] {0, 2, 3, 39}) {
                Check.throwsAnd(tree, "page(" + page + ", " + what + ")", IllegalArgumentException.class,
                    () -> tree.page(page, what));
            }
        }
    }

    private static void items() {
        PagedTree tree = Trees.rising(1, 5);
        Check.due("a key", tree.item(1, 2, false), 5);
        Check.due("a value", tree.item(1, 2, true), 50);
        Check.due("a mark", tree.item(2, 1, false), 3);
        Check.due("a child", tree.item(2, 1, true), 1);
        Check.due("the mark of a first child", tree.item(2, 0, false), 0);
        Check.due("a first child", tree.item(2, 0, true), 0);
        noItem(tree, 0, 2);
        noItem(tree, 1, 3);
        noItem(tree, 2, 2);
        noItem(tree, 3, 0);
        noItem(tree, 0, -1);
        noItem(tree, 0, Integer.MIN_VALUE);
        noItem(tree, 0, Integer.MAX_VALUE);
        for (int page : NO_PAGES) {
            noItem(tree, page, 0);
        }
        tree.remove(5);
        noItem(tree, 1, 2);
    }

    private static void noItem(PagedTree tree, int page, int i) {
        Check.throwsAnd(tree, "item(" + page + ", " + i + ", false)", IndexOutOfBoundsException.class,
            () -> tree.item(page, i, false));
        Check.throwsAnd(tree, "item(" + page + ", " + i + ", true)", IndexOutOfBoundsException.class,
            () -> tree.item(page, i, true));
    }

    private static void told() {
        PagedTree tree = Trees.cold(0, 10);
        tree.get(9);
        tree.get(8);
        tree.put(8, 8);
        tree.flush();
        // Hits: 4 of the root alone, 6 times 2, then 3 for get(8) and for put(8); read: page 0, then 3.
        int[] due = {11, 7, 3, 8, 22, 4, 9, 3};
        for (int what = 0; what < due.length; what++) {
            Check.due("told(" + what + ")", tree.told(what), due[what]);
        }
        tree.get(0);
        Check.due("hits", tree.told(4), 23);
        Check.due("read", tree.told(5), 6);
        for (int what : new int[] {-1, 8, Integer.MIN_VALUE, Integer.MAX_VALUE}) {
            Check.due("told(" + what + ")", tree.told(what), PagedTree.NONE);
        }
    }

    private static void looksChangeNothing() {
        PagedTree tree = Trees.cold(0, 10);
        String before = State.of(tree);
        tree.astray();
        Check.dueText("after looking", State.of(tree), before);
        Check.dueText("no page was touched", State.frames(tree), "");
    }
}
