import java.util.NoSuchElementException;

/** Promises 5, 6 and 7. */
final class CursorTest {
    public static void main(String[] args) {
        noEntries();
        throughAll();
        seekTouches();
        nextLeafOnSeek();
        nextTouches();
        edgesOfInt();
        endings();
        Check.end();
    }

    private static void noEntries() {
        PagedTree tree = new PagedTree();
        Check.due("seek in no entries", tree.seek(0), false);
        Check.due("what it read", tree.told(5), 1);
        throwsAll(tree, "no entries");
    }

    private static void throwsAll(PagedTree tree, String what) {
        Check.throwsAnd(tree, what + ": next", NoSuchElementException.class, () -> tree.next());
        Check.throwsAnd(tree, what + ": key", NoSuchElementException.class, () -> tree.cursor(false));
        Check.throwsAnd(tree, what + ": value", NoSuchElementException.class, () -> tree.cursor(true));
    }

    private static void throughAll() {
        PagedTree tree = Trees.rising(0, 40);
        Check.due("seek", tree.seek(-5), true);
        for (int key = 0; key <= 40; key++) {
            Check.due("key", tree.cursor(false), key);
            Check.due("value", tree.cursor(true), key * 10);
            Check.due("next after " + key, tree.next(), key < 40);
        }
        throwsAll(tree, "behind the last key");
    }

    private static void seekTouches() {
        PagedTree tree = Trees.cold(0, 5);
        Check.due("seek(1)", tree.seek(1), true);
        Check.due("key", tree.cursor(false), 1);
        Check.dueText("its way alone", State.frames(tree), "0: 2 used\n1: 0 used\n");
        tree.drop();
        Check.due("seek(6)", tree.seek(6), false);
        Check.dueText("the last leaf has no next one", State.frames(tree), "0: 2 used\n1: 1 used\n");
        throwsAll(tree, "seek behind all");
    }

    private static void nextLeafOnSeek() {
        PagedTree tree = Trees.rising(0, 6);
        tree.put(-1, 0);
        tree.remove(1);
        tree.flush();
        tree.drop();
        // Leaf 0 has -1 and 0, and the way of 1 leads to it.
        Check.due("seek(1)", tree.seek(1), true);
        Check.due("key", tree.cursor(false), 2);
        Check.dueText("the next leaf too", State.frames(tree), "0: 2 used\n1: 0 used\n2: 1 used\n");
        Check.due("no dirty frame", tree.flush(), 0);
    }

    private static void nextTouches() {
        PagedTree tree = Trees.cold(1, 5);
        tree.seek(1);
        int hits = tree.told(4);
        int read = tree.told(5);
        tree.next();
        Check.due("hits in the leaf", tree.told(4) - hits, 1);
        Check.due("read in the leaf", tree.told(5) - read, 0);
        tree.next();
        Check.due("hits to the next leaf", tree.told(4) - hits, 2);
        Check.due("read to the next leaf", tree.told(5) - read, 1);
        Check.due("key in the next leaf", tree.cursor(false), 3);
        tree.next();
        tree.next();
        Check.due("next behind the last", tree.next(), false);
        Check.due("hits behind the last", tree.told(4) - hits, 5);
        Check.due("read behind the last", tree.told(5) - read, 1);
    }

    private static void edgesOfInt() {
        PagedTree tree = new PagedTree();
        tree.put(Integer.MAX_VALUE, 1);
        tree.put(Integer.MIN_VALUE, 2);
        Check.due("seek of the last int", tree.seek(Integer.MAX_VALUE), true);
        Check.due("its value", tree.cursor(true), 1);
        Check.due("next of the last int", tree.next(), false);
        Check.due("seek of the least int", tree.seek(Integer.MIN_VALUE), true);
        Check.due("its value", tree.cursor(true), 2);
        Check.due("next of the least int", tree.next(), true);
        Check.due("the next key", tree.cursor(false), Integer.MAX_VALUE);
    }

    private static void endings() {
        PagedTree tree = Trees.rising(0, 9);
        tree.seek(5);
        tree.flush();
        tree.get(1);
        Check.due("after flush and get", tree.cursor(true), 50);
        tree.seek(5);
        tree.seek(10);
        throwsAll(tree, "a seek that found none");
        tree.seek(5);
        tree.remove(99);
        throwsAll(tree, "remove");
        tree.seek(5);
        tree.put(1, 1);
        throwsAll(tree, "put");
        tree.flush();
        tree.seek(5);
        tree.drop();
        throwsAll(tree, "drop");
    }
}
