import java.util.NoSuchElementException;

/** "A call that throws changes nothing.": each call that may throw, and what comes after it. */
final class RefusedEdgesTest {
    public static void main(String[] args) {
        refusedWithACursor();
        refusedWithoutACursor();
        refusedLeaveNoTrace();
        whichIsThrown();
        Check.end();
    }

    /** All 40 pages, a dirty frame, and the cursor at 100; the leaf with 44 is full. */
    private static PagedTree crowded() {
        PagedTree tree = Trees.tens(45);
        Trees.add(tree, 1, 2, 3, 4, 5, 41, 42, 43, 44);
        tree.seek(100);
        return tree;
    }

    private static void refusedWithACursor() {
        Check.sentence("A call that throws changes nothing.");
        PagedTree tree = crowded();
        refuseAll(tree);
        Check.due("the cursor goes on", tree.next(), true);
        Check.due("its key", tree.cursor(false), 110);
        Check.due("astray", tree.astray(), 0);
    }

    private static void refuseAll(PagedTree tree) {
        Check.throwsAnd(tree, "put", UnsupportedOperationException.class, () -> tree.put(45, 0));
        Check.throwsAnd(tree, "get", NoSuchElementException.class, () -> tree.get(45));
        Check.throwsAnd(tree, "drop", IllegalStateException.class, () -> tree.drop());
        Check.throwsAnd(tree, "page too small", IndexOutOfBoundsException.class, () -> tree.page(-1, 0));
        Check.throwsAnd(tree, "page too large", IndexOutOfBoundsException.class, () -> tree.page(40, 0));
        Check.throwsAnd(tree, "page with another what", IllegalArgumentException.class, () -> tree.page(0, 3));
        Check.throwsAnd(tree, "item of no page", IndexOutOfBoundsException.class, () -> tree.item(40, 0, false));
        Check.throwsAnd(tree, "item too small", IndexOutOfBoundsException.class, () -> tree.item(0, -1, false));
        Check.throwsAnd(tree, "item too large", IndexOutOfBoundsException.class, () -> tree.item(0, 4, true));
        Check.throwsAnd(tree, "frame too small", IndexOutOfBoundsException.class, () -> tree.frame(-1, 0));
        Check.throwsAnd(tree, "frame too large", IndexOutOfBoundsException.class, () -> tree.frame(12, 0));
        Check.throwsAnd(tree, "frame with another what", IllegalArgumentException.class, () -> tree.frame(0, 3));
    }

    private static void refusedWithoutACursor() {
        Check.sentence("A call that throws changes nothing.");
        PagedTree tree = crowded();
        tree.seek(1000);
        Check.throwsAnd(tree, "next", NoSuchElementException.class, () -> tree.next());
        Check.throwsAnd(tree, "cursor of the key", NoSuchElementException.class, () -> tree.cursor(false));
        Check.throwsAnd(tree, "cursor of the value", NoSuchElementException.class, () -> tree.cursor(true));
        refuseAll(tree);
        Check.throwsAnd(tree, "next again", NoSuchElementException.class, () -> tree.next());
    }

    /** Two objects, refused calls on one of them alone: all that comes later is the same, pins and all. */
    private static void refusedLeaveNoTrace() {
        Check.sentence("A call that throws changes nothing.");
        PagedTree refused = crowded();
        PagedTree other = crowded();
        for (int round = 0; round < 30; round++) {
            refuseAll(refused);
            int key = round * 170 % 460;
            Check.due("get", refused.get(key), other.get(key));
            Check.due("next", refused.next(), other.next());
            Check.dueText("round " + round, State.of(refused), State.of(other));
        }
        Check.due("remove", refused.remove(42), other.remove(42));
        Check.due("put", refused.put(45, 0), other.put(45, 0));
        Check.dueText("at the end", State.of(refused), State.of(other));
    }

    private static void whichIsThrown() {
        // The document names IndexOutOfBounds first; both could be meant.
        Check.sentence("IndexOutOfBounds: there is no such page, frame, or item. IllegalArgument: what is none that is told.");
        PagedTree tree = Trees.tens(4);
        Check.throwsAnd(tree, "page(40, 3)", IndexOutOfBoundsException.class, () -> tree.page(40, 3));
        Check.throwsAnd(tree, "page(-1, -1)", IndexOutOfBoundsException.class, () -> tree.page(-1, -1));
        Check.throwsAnd(tree, "frame(12, 3)", IndexOutOfBoundsException.class, () -> tree.frame(12, 3));
        Check.throwsAnd(tree, "frame(-1, -1)", IndexOutOfBoundsException.class, () -> tree.frame(-1, -1));
    }
}
