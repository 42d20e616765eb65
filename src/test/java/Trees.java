/** Trees that several tests start from. */
final class Trees {
    private Trees() {
    }

    /** Keys from one up to another, in that order, each with ten times itself as its value. */
    static PagedTree rising(int from, int to) {
        PagedTree tree = new PagedTree();
        for (int key = from; key <= to; key++) {
            tree.put(key, key * 10);
        }
        return tree;
    }

    /** As rising, with all pages written and no page in a frame. */
    static PagedTree cold(int from, int to) {
        PagedTree tree = rising(from, to);
        tree.flush();
        tree.drop();
        return tree;
    }

    /** Each key with five more than itself as its value, in the order that is given. */
    static PagedTree of(int... keys) {
        PagedTree tree = new PagedTree();
        add(tree, keys);
        return tree;
    }

    static void add(PagedTree tree, int... keys) {
        for (int key : keys) {
            tree.put(key, key + 5);
        }
    }

    static void take(PagedTree tree, int... keys) {
        for (int key : keys) {
            tree.remove(key);
        }
    }

    /**
     * Keys 0, 10, .. up to ten times the last, put in that order, so that keys can come between.
     * Up to 100: root 7 has 2 and 6; 2 has leaves 0 and 1; 6 has leaves 3, 4 and 5.
     * Up to 210: root 7 has 2, 6, 10 and 13; leaves 0 1, 3 4, 5 8 and 9 11 12 14 are below them.
     * Up to 240: root 18 has 7 and 17, 7 has 2 and 6, 17 has 10, 13 and 16; below them are twelve leaves.
     */
    static PagedTree tens(int last) {
        PagedTree tree = new PagedTree();
        for (int i = 0; i <= last; i++) {
            add(tree, i * 10);
        }
        return tree;
    }

    static PagedTree coldTens(int last) {
        PagedTree tree = tens(last);
        cool(tree);
        return tree;
    }

    /** All pages are written, and no page is in a frame. */
    static void cool(PagedTree tree) {
        tree.flush();
        tree.drop();
    }

    static void duePages(String what, PagedTree tree, String... pages) {
        for (String page : pages) {
            int number = Integer.parseInt(page.substring(0, page.indexOf(' ')));
            Check.dueText(what + ": page", State.page(tree, number) + "\n", page + "\n");
        }
        Check.due(what + ": pages that are not free", tree.told(3), pages.length);
        Check.due(what + ": astray", tree.astray(), 0);
    }
}
