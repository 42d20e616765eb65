/** Promise 2, and how pages split. */
final class PutTest {
    public static void main(String[] args) {
        entries();
        leafSplits();
        leafSplitsInTheMiddle();
        innerSplits();
        edgesOfInt();
        touchesAndChanges();
        noMorePages();
        endsTheCursor();
        Check.end();
    }

    private static void entries() {
        PagedTree tree = new PagedTree();
        Check.due("put of a new key", tree.put(5, 50), true);
        Check.due("put of a lower key", tree.put(3, 30), true);
        Check.due("put of a known key", tree.put(5, 51), false);
        Check.due("put of a higher key", tree.put(9, -1), true);
        Check.due("put of the fourth key", tree.put(4, 0), true);
        Trees.duePages("four entries", tree, "0 leaf 3=30 4=0 5=51 9=-1");
        Check.due("keys", tree.told(0), 4);
    }

    private static void leafSplits() {
        PagedTree tree = Trees.rising(1, 5);
        Trees.duePages("five entries", tree, "0 leaf 1=10 2=20 then 1", "1 leaf 3=30 4=40 5=50", "2 inner 0:0 3:1");
        Check.due("root", tree.told(1), 2);
        Check.due("levels", tree.told(2), 2);
    }

    private static void leafSplitsInTheMiddle() {
        PagedTree tree = new PagedTree();
        for (int key : new int[] {10, 20, 30, 40, 50, 12, 14, 11}) {
            tree.put(key, key);
        }
        Trees.duePages("a first leaf that splits", tree, "0 leaf 10=10 11=11 then 3", "3 leaf 12=12 14=14 20=20 then 1",
            "1 leaf 30=30 40=40 50=50", "2 inner 0:0 12:3 30:1");
    }

    private static void innerSplits() {
        PagedTree tree = Trees.rising(0, 9);
        Trees.duePages("four leaves", tree, "0 leaf 0=0 1=10 then 1", "1 leaf 2=20 3=30 then 3",
            "3 leaf 4=40 5=50 then 4", "4 leaf 6=60 7=70 8=80 9=90", "2 inner 0:0 2:1 4:3 6:4");
        tree.put(10, 100);
        Trees.duePages("five leaves", tree, "0 leaf 0=0 1=10 then 1", "1 leaf 2=20 3=30 then 3",
            "3 leaf 4=40 5=50 then 4", "4 leaf 6=60 7=70 then 5", "5 leaf 8=80 9=90 10=100",
            "2 inner 0:0 2:1", "6 inner 0:3 6:4 8:5", "7 inner 0:2 4:6");
        Check.due("root", tree.told(1), 7);
        Check.due("levels", tree.told(2), 3);
    }

    private static void edgesOfInt() {
        PagedTree tree = new PagedTree();
        for (int key : new int[] {Integer.MAX_VALUE, 0, Integer.MIN_VALUE, -1, 1}) {
            Check.due("put " + key, tree.put(key, key), true);
        }
        Trees.duePages("the edges", tree, "0 leaf -2147483648=-2147483648 -1=-1 then 1", "1 leaf 0=0 1=1 2147483647=2147483647",
            "2 inner 0:0 0:1");
    }

    private static void touchesAndChanges() {
        PagedTree tree = Trees.cold(0, 10);
        // Root 7, inner 6 and leaf 5 are touched; the leaf alone changes.
        tree.put(9, 9);
        Check.dueText("frames after a value", State.frames(tree), "0: 7 used\n1: 6 used\n2: 5 used dirty\n");
        tree.put(9, 9);
        tree.flush();
        tree.put(9, 9);
        Check.dueText("the same value once more", State.frames(tree), "0: 7 used\n1: 6 used\n2: 5 used dirty\n");
        tree.flush();
        tree.put(11, 11);
        Check.dueText("a new entry", State.frames(tree), "0: 7 used\n1: 6 used\n2: 5 used dirty\n");
        tree.flush();
        int read = tree.told(5);
        // Leaf 5 has five then: page 8 is new, not read, and 5 and 6 change.
        tree.put(12, 12);
        Check.dueText("a split", State.frames(tree), "0: 7 used\n1: 6 used dirty\n2: 5 used dirty\n3: 8 used dirty\n");
        Check.due("read by a split", tree.told(5), read);
        tree.put(13, 13);
        tree.flush();
        tree.drop();
        // Leaf 8 splits into 9, inner 6 into 10, and the root gets one child more.
        tree.put(14, 14);
        Check.dueText("a split of two", State.frames(tree), "0: 7 used dirty\n1: 6 used dirty\n2: 8 used dirty\n"
            + "3: 9 used dirty\n4: 10 used dirty\n");
        Check.due("read by a split of two", tree.told(5), read + 3);
    }

    private static void noMorePages() {
        PagedTree tree = Trees.rising(0, 45);
        Check.due("pages", tree.told(3), 37);
        tree.seek(7);
        Check.throwsAnd(tree, "put of an entry for which four pages are missing", UnsupportedOperationException.class,
            () -> tree.put(46, 0));
        Check.due("put of a key that is there", tree.put(45, 7), false);
        Check.due("put of an entry that needs no page", tree.put(-1, 7), true);
        Check.due("the value", tree.get(45), 7);
        Check.due("the cursor goes on after what threw", cursorGoesOn(), true);
    }

    private static boolean cursorGoesOn() {
        PagedTree tree = Trees.rising(0, 45);
        tree.seek(7);
        try {
            tree.put(46, 0);
        } catch (UnsupportedOperationException e) {
            return tree.next() && tree.cursor(false) == 8;
        }
        return false;
    }

    private static void endsTheCursor() {
        PagedTree tree = Trees.rising(0, 3);
        tree.seek(0);
        tree.put(0, 1);
        Check.throwsAnd(tree, "cursor after put", java.util.NoSuchElementException.class, () -> tree.cursor(false));
    }
}
