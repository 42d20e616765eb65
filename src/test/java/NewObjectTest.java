/** Promise 1. */
final class NewObjectTest {
    public static void main(String[] args) {
        PagedTree tree = new PagedTree();
        Check.dueText("a new object", State.of(tree), "told 0 0 1 1 0 0 0 0\ncursor ended\n0 leaf\n");
        Check.due("astray", tree.astray(), 0);
        for (int page = 1; page < 40; page++) {
            Check.dueText("page " + page, State.page(tree, page), page + " free");
        }
        for (int frame = 0; frame < 12; frame++) {
            Check.due("frame " + frame, tree.frame(frame, 0), PagedTree.NONE);
        }
        tree.put(1, 1);
        Check.due("keys of another new object", new PagedTree().told(0), 0);
        Check.end();
    }
}
