import java.util.NoSuchElementException;

/** Promise 3. */
final class GetTest {
    public static void main(String[] args) {
        PagedTree tree = Trees.cold(0, 10);
        Check.due("get(5)", tree.get(5), 50);
        Check.dueText("frames", State.frames(tree), "0: 7 used\n1: 6 used\n2: 3 used\n");
        int read = tree.told(5);
        int hits = tree.told(4);
        Check.due("get(4)", tree.get(4), 40);
        Check.due("get(1)", tree.get(1), 10);
        Check.due("read", tree.told(5) - read, 2);
        Check.due("hits", tree.told(4) - hits, 4);
        Check.throwsAnd(tree, "get of a key that is not there", NoSuchElementException.class, () -> tree.get(11));
        Check.throwsAnd(tree, "get of the least int", NoSuchElementException.class, () -> tree.get(Integer.MIN_VALUE));
        Check.throwsAnd(tree, "get of the last int", NoSuchElementException.class, () -> tree.get(Integer.MAX_VALUE));
        PagedTree fresh = new PagedTree();
        Check.throwsAnd(fresh, "get of a new object", NoSuchElementException.class, () -> fresh.get(0));
        tree.seek(3);
        tree.get(9);
        Check.due("the cursor stays", tree.cursor(false), 3);
        tree.remove(9);
        Check.throwsAnd(tree, "get of a key that went", NoSuchElementException.class, () -> tree.get(9));
        Check.end();
    }
}
