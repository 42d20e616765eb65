/** Trees that several tests start from. */
final class Trees {
    private Trees() {
    }

    /** Keys from one up to another, in that order, each with ten times itself as its value. */
    static PagedTree rising(int from, int to) {
        PagedTree tree = new PagedTree();
        for (int key = from; key <= to; key++) {
            tree.put(key, key * 10);
        }
        return tree;
    }

    /** As rising, with all pages written and no page in a frame. */
    static PagedTree cold(int from, int to) {
        PagedTree tree = rising(from, to);
        tree.flush();
        tree.drop();
        return tree;
    }

    static void duePages(String what, PagedTree tree, String... pages) {
        for (String page : pages) {
            int number = Integer.parseInt(page.substring(0, page.indexOf(' ')));
            Check.dueText(what + ": page", State.page(tree, number) + "\n", page + "\n");
        }
        Check.due(what + ": pages that are not free", tree.told(3), pages.length);
        Check.due(what + ": astray", tree.astray(), 0);
    }
}
