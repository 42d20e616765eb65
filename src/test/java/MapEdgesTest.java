import java.util.NoSuchElementException;

/** Promises 1 to 4: each sentence that names a boundary, with a test of its own. */
final class MapEdgesTest {
    public static void main(String[] args) {
        emptyMap();
        emptyFrames();
        putNewOrKnown();
        putEdgesOfInt();
        putTouchesTheWay();
        putChangesTheLeaf();
        putOfKnownKeySplitsNothing();
        putSplitsFromTheLeafUp();
        putEndsTheCursor();
        putUpToTheLastPage();
        putWithTooFewPages();
        putWithoutFreePages();
        putAfterPagesBecameFree();
        putOfARootWithoutRoom();
        getOfAKey();
        getOfNone();
        removeOfAKey();
        removeOfNone();
        removeOfTheLastKey();
        removeTouchesLeftThenRight();
        removeWithoutLeftOrRight();
        removeChanges();
        removeEndsTheCursor();
        Check.end();
    }

    // ------------------------------------------------------------ promise 1

    private static void emptyMap() {
        Check.sentence("An empty map");
        PagedTree tree = new PagedTree();
        Check.due("keys", tree.told(0), 0);
        Check.throwsAnd(tree, "get", NoSuchElementException.class, () -> tree.get(0));
        Check.throwsAnd(tree, "next", NoSuchElementException.class, () -> tree.next());
        Check.throwsAnd(tree, "cursor", NoSuchElementException.class, () -> tree.cursor(false));
        Check.due("remove", tree.remove(0), false);
        Check.due("seek", tree.seek(Integer.MIN_VALUE), false);
    }

    private static void emptyFrames() {
        Check.sentence("all frames empty");
        PagedTree tree = new PagedTree();
        for (int frame = 0; frame <= 11; frame++) {
            Check.due("page of frame " + frame, tree.frame(frame, 0), PagedTree.NONE);
            Check.due("used " + frame, tree.frame(frame, 1), 0);
            Check.due("dirty " + frame, tree.frame(frame, 2), 0);
        }
        Check.due("drop", tree.drop(), 0);
    }

    // ------------------------------------------------------------ promise 2

    private static void putNewOrKnown() {
        Check.sentence("A key has a value: whether it had none before.");
        PagedTree tree = new PagedTree();
        Check.due("a new key", tree.put(1, 10), true);
        Check.due("a known key", tree.put(1, 20), false);
        Check.due("its value", tree.get(1), 20);
        Check.due("keys", tree.told(0), 1);
        tree.remove(1);
        Check.due("a key that went", tree.put(1, 30), true);
        Check.due("its value", tree.get(1), 30);
        PagedTree large = Trees.tens(45);
        for (int key = 0; key <= 450; key += 10) {
            Check.due("known " + key, large.put(key, -key), false);
        }
        for (int key = 0; key <= 450; key += 10) {
            Check.due("value of " + key, large.get(key), -key);
        }
        Check.due("keys", large.told(0), 46);
    }

    private static void putEdgesOfInt() {
        Check.sentence("A key has a value");
        PagedTree tree = new PagedTree();
        for (int key : new int[] {Integer.MIN_VALUE, Integer.MAX_VALUE, 0, -1, 1, Integer.MIN_VALUE + 1, Integer.MAX_VALUE - 1}) {
            Check.due("put of " + key, tree.put(key, -key), true);
            Check.due("get of " + key, tree.get(key), -key);
        }
        Trees.duePages("in order", tree, "0 leaf -2147483648=-2147483648 -2147483647=2147483647 -1=1 then 1",
            "1 leaf 0=0 1=-1 2147483646=-2147483646 2147483647=-2147483647", "2 inner 0:0 0:1");
    }

    private static void putTouchesTheWay() {
        Check.sentence("The pages of its way are touched, from the root on");
        PagedTree known = Trees.coldTens(24);
        known.put(0, 0);
        Check.dueText("a known key", State.frames(known), "0: 18 used\n1: 7 used\n2: 2 used\n3: 0 used dirty\n");
        PagedTree fresh = Trees.coldTens(24);
        fresh.put(250, 0);
        Check.dueText("a new key", State.frames(fresh), "0: 18 used\n1: 17 used\n2: 16 used\n3: 19 used dirty\n");
        PagedTree leafAlone = new PagedTree();
        leafAlone.put(0, 0);
        Check.dueText("a root that is a leaf", State.frames(leafAlone), "0: 0 used dirty\n");
    }

    private static void putChangesTheLeaf() {
        Check.sentence("the leaf changes");
        PagedTree tree = Trees.coldTens(4);
        tree.put(0, 5);
        Check.dueText("the value that it has already", State.frames(tree), "0: 2 used\n1: 0 used dirty\n");
    }

    private static void putOfKnownKeySplitsNothing() {
        Check.sentence("With a new entry pages split");
        PagedTree tree = Trees.tens(3);
        for (int key = 0; key <= 30; key += 10) {
            tree.put(key, 1);
        }
        Trees.duePages("a full leaf", tree, "0 leaf 0=1 10=1 20=1 30=1");
    }

    private static void putSplitsFromTheLeafUp() {
        Check.sentence("from the leaf up: each new page is touched, then it, the one that splits, and the parent change");
        PagedTree leaf = Trees.coldTens(7);
        leaf.put(80, 0);
        Check.dueText("a leaf", State.frames(leaf), "0: 2 used dirty\n1: 3 used dirty\n2: 4 used dirty\n");
        PagedTree below = Trees.tens(10);
        Trees.add(below, 110);
        Trees.cool(below);
        below.put(120, 0);
        Check.dueText("a leaf two below the root", State.frames(below), "0: 7 used\n1: 6 used dirty\n2: 5 used dirty\n3: 8 used dirty\n");
        PagedTree inner = Trees.tens(13);
        Trees.cool(inner);
        inner.put(140, 0);
        Check.dueText("a leaf and its parent", State.frames(inner), "0: 7 used dirty\n1: 6 used dirty\n2: 8 used dirty\n3: 9 used dirty\n"
            + "4: 10 used dirty\n");
        PagedTree root = Trees.coldTens(9);
        root.put(100, 0);
        Check.dueText("a leaf and the root", State.frames(root), "0: 2 used dirty\n1: 4 used dirty\n2: 5 used dirty\n3: 6 used dirty\n"
            + "4: 7 used dirty\n");
        PagedTree leafAlone = Trees.coldTens(3);
        leafAlone.put(40, 0);
        Check.dueText("a root that is a leaf", State.frames(leafAlone), "0: 0 used dirty\n1: 1 used dirty\n2: 2 used dirty\n");
    }

    private static void putEndsTheCursor() {
        Check.sentence("The CURSOR ends.");
        for (int key : new int[] {0, 20, 25, 99}) {
            PagedTree tree = Trees.tens(4);
            tree.seek(20);
            tree.put(key, key + 5);
            Check.throwsAnd(tree, "cursor after put of " + key, NoSuchElementException.class, () -> tree.cursor(false));
            Check.throwsAnd(tree, "next after put of " + key, NoSuchElementException.class, () -> tree.next());
        }
    }

    /** 30 pages on four levels; the next key behind the last needs three pages, for the root has three children. */
    private static PagedTree thirtyPages() {
        PagedTree tree = Trees.tens(37);
        Check.due("levels", tree.told(2), 4);
        Check.due("children of the root", tree.page(tree.told(1), 1), 3);
        Check.due("pages", tree.told(3), 30);
        return tree;
    }

    private static void putUpToTheLastPage() {
        Check.sentence("UnsupportedOperation: there would be more pages than there are.");
        PagedTree tree = thirtyPages();
        Trees.add(tree, 1, 2, 3, 4, 5, 41, 42, 43, 44, 45, 81, 82, 83, 84, 85, 121, 122, 123);
        Check.due("pages", tree.told(3), 37);
        Check.due("put with three pages for three that are free", tree.put(380, 385), true);
        Check.due("pages", tree.told(3), 40);
        Check.due("its value", tree.get(380), 385);
        Check.due("astray", tree.astray(), 0);
    }

    private static void putWithTooFewPages() {
        Check.sentence("UnsupportedOperation: there would be more pages than there are.");
        PagedTree tree = thirtyPages();
        Trees.add(tree, 1, 2, 3, 4, 5, 41, 42, 43, 44, 45, 81, 82, 83, 84, 85, 121, 122, 123, 124, 125);
        Check.due("pages", tree.told(3), 38);
        tree.seek(370);
        Check.throwsAnd(tree, "put with three pages for two that are free", UnsupportedOperationException.class, () -> tree.put(380, 0));
        // Page 13 has four children now, and the last leaf below one of them gets full.
        Trees.add(tree, 126, 161, 162, 163);
        Check.due("pages", tree.told(3), 39);
        Check.throwsAnd(tree, "put with two pages for one that is free", UnsupportedOperationException.class, () -> tree.put(127, 0));
        Check.due("put with one page for one that is free", put(tree, 164, 165), 2);
        Check.due("pages", tree.told(3), 40);
        Check.due("astray", tree.astray(), 0);
    }

    /** How many of these keys were new. */
    private static int put(PagedTree tree, int... keys) {
        int fresh = 0;
        for (int key : keys) {
            fresh += tree.put(key, key + 5) ? 1 : 0;
        }
        return fresh;
    }

    /** All 40 pages; leaf 39 has 42, 43 and 50. */
    private static PagedTree fortyPages() {
        PagedTree tree = Trees.tens(45);
        Trees.add(tree, 1, 2, 3, 4, 5, 41, 42, 43);
        Check.due("pages", tree.told(3), 40);
        return tree;
    }

    private static void putWithoutFreePages() {
        Check.sentence("UnsupportedOperation: there would be more pages than there are.");
        PagedTree tree = fortyPages();
        Check.due("put of the fourth entry of a leaf", tree.put(44, 0), true);
        Check.throwsAnd(tree, "put of the fifth", UnsupportedOperationException.class, () -> tree.put(45, 0));
        Check.due("put of a key that the full leaf has", tree.put(44, 9), false);
        Check.due("its value", tree.get(44), 9);
        Check.due("keys", tree.told(0), 55);
    }

    private static void putAfterPagesBecameFree() {
        Check.sentence("UnsupportedOperation: there would be more pages than there are.");
        PagedTree tree = fortyPages();
        tree.put(44, 0);
        tree.remove(440);
        tree.remove(430);
        tree.remove(450);
        Check.due("leaf 36 joined leaf 34", tree.told(3), 39);
        Check.due("put of a fifth entry", tree.put(45, 0), true);
        Check.dueText("the page that was free", State.page(tree, 36), "36 leaf 44=0 45=0 50=55 then 4");
        Check.due("pages", tree.told(3), 40);
    }

    private static void putOfARootWithoutRoom() {
        Check.sentence("UnsupportedOperation: there would be more pages than there are.");
        // 37 pages, and each page of the last way is full: four would split, and a root come above.
        PagedTree tree = Trees.tens(45);
        tree.seek(300);
        Check.throwsAnd(tree, "put", UnsupportedOperationException.class, () -> tree.put(460, 0));
        Check.due("the cursor goes on", tree.next(), true);
        Check.due("its key", tree.cursor(false), 310);
        Check.due("levels", tree.told(2), 4);
    }

    // ------------------------------------------------------------ promise 3

    private static void getOfAKey() {
        Check.sentence("The value of a key; the pages of its way are touched");
        PagedTree tree = Trees.coldTens(10);
        Check.due("the first key", tree.get(0), 5);
        Check.dueText("its way", State.frames(tree), "0: 7 used\n1: 2 used\n2: 0 used\n");
        tree.drop();
        Check.due("the last key", tree.get(100), 105);
        Check.dueText("its way", State.frames(tree), "0: 7 used\n1: 6 used\n2: 5 used\n");
        tree.drop();
        Check.due("a key that is a mark", tree.get(40), 45);
        Check.dueText("its way", State.frames(tree), "0: 7 used\n1: 6 used\n2: 3 used\n");
        PagedTree none = new PagedTree();
        none.put(3, PagedTree.NONE);
        Check.due("a value of -1", none.get(3), -1);
        tree.seek(50);
        tree.get(0);
        Check.due("the cursor stays", tree.cursor(false), 50);
    }

    private static void getOfNone() {
        Check.sentence("(nothing is, if it is not there). NoSuchElement.");
        PagedTree tree = Trees.coldTens(10);
        Trees.take(tree, 80);
        Trees.cool(tree);
        for (int key : new int[] {Integer.MIN_VALUE, -1, 1, 19, 39, 80, 81, 101, Integer.MAX_VALUE}) {
            Check.throwsAnd(tree, "get of " + key, NoSuchElementException.class, () -> tree.get(key));
        }
        Check.dueText("no page was touched", State.frames(tree), "");
    }

    // ------------------------------------------------------------ promise 4

    private static void removeOfAKey() {
        Check.sentence("A key has no value any more: whether it had one.");
        PagedTree tree = Trees.tens(10);
        for (int key = 100; key >= 0; key -= 10) {
            Check.due("remove of " + key, tree.remove(key), true);
            Check.due("once more", tree.remove(key), false);
            Check.due("keys", tree.told(0), key / 10);
            Check.due("astray", tree.astray(), 0);
        }
    }

    private static void removeOfNone() {
        Check.sentence("The pages of its way are touched; if it had one, the leaf changes");
        PagedTree tree = Trees.coldTens(10);
        for (int key : new int[] {Integer.MIN_VALUE, 15, Integer.MAX_VALUE}) {
            Check.due("remove of " + key, tree.remove(key), false);
        }
        Check.dueText("no page changes", State.frames(tree), "0: 7 used\n1: 2 used\n2: 0 used\n3: 6 used\n4: 5 used\n");
        PagedTree empty = new PagedTree();
        Check.due("remove of an empty map", empty.remove(0), false);
        Check.dueText("the root is touched", State.frames(empty), "0: 0 used\n");
        PagedTree three = Trees.tens(4);
        Trees.cool(three);
        Check.due("remove of a key", three.remove(30), true);
        Check.dueText("the leaf changes", State.frames(three), "0: 2 used\n1: 1 used dirty\n");
    }

    private static void removeOfTheLastKey() {
        Check.sentence("A key has no value any more: whether it had one.");
        PagedTree tree = Trees.of(Integer.MAX_VALUE);
        Check.due("remove", tree.remove(Integer.MAX_VALUE), true);
        Check.due("keys", tree.told(0), 0);
        Check.due("pages", tree.told(3), 1);
        Check.due("put", tree.put(Integer.MIN_VALUE, 1), true);
        Check.due("remove", tree.remove(Integer.MIN_VALUE), true);
        Check.dueText("the leaf is dirty", State.frames(tree), "0: 0 used dirty\n");
    }

    private static void removeTouchesLeftThenRight() {
        Check.sentence("its left one is touched, if there is one; if that does not give, its right one, if there is one");
        PagedTree both = Trees.coldTens(7);
        both.remove(20);
        Check.dueText("left one of two, right one of four", State.frames(both),
            "0: 2 used dirty\n1: 1 used dirty\n2: 0 used\n3: 3 used dirty\n");
        PagedTree left = Trees.tens(7);
        Trees.add(left, 1);
        Trees.cool(left);
        left.remove(20);
        Check.dueText("left one of three", State.frames(left), "0: 2 used dirty\n1: 1 used dirty\n2: 0 used dirty\n");
    }

    private static void removeWithoutLeftOrRight() {
        Check.sentence("its left one is touched, if there is one; if that does not give, its right one, if there is one");
        PagedTree first = Trees.coldTens(7);
        first.remove(0);
        Check.dueText("no left one", State.frames(first), "0: 2 used dirty\n1: 0 used dirty\n");
        PagedTree last = Trees.tens(6);
        Trees.take(last, 60);
        Trees.cool(last);
        int read = last.told(5);
        last.remove(50);
        Check.dueText("no right one", State.frames(last), "0: 2 used dirty\n2: 1 used dirty\n");
        Check.due("read", last.told(5) - read, 3);
        PagedTree root = Trees.of(1);
        Trees.cool(root);
        root.remove(1);
        Check.dueText("a root has neither", State.frames(root), "0: 0 used dirty\n");
    }

    private static void removeChanges() {
        Check.sentence("those that give, get, or join, and the parent, change");
        PagedTree right = Trees.coldTens(4);
        right.remove(0);
        Check.dueText("the right one gives", State.frames(right), "0: 2 used dirty\n1: 0 used dirty\n2: 1 used dirty\n");
        PagedTree inner = Trees.coldTens(10);
        inner.remove(0);
        Check.dueText("an inner one gives", State.frames(inner), "0: 7 used dirty\n1: 2 used dirty\n2: 0 used dirty\n4: 6 used dirty\n");
        PagedTree joined = Trees.tens(10);
        Trees.take(joined, 100, 90);
        Trees.cool(joined);
        joined.remove(0);
        Check.dueText("a leaf and an inner page join, and the root goes", State.frames(joined), "1: 2 used dirty\n2: 0 used dirty\n");
        Check.due("the root", joined.told(1), 2);
    }

    private static void removeEndsTheCursor() {
        Check.sentence("The cursor ends.");
        for (int key : new int[] {0, 20, 25, 40, 99}) {
            PagedTree tree = Trees.tens(4);
            tree.seek(20);
            tree.remove(key);
            Check.throwsAnd(tree, "cursor after remove of " + key, NoSuchElementException.class, () -> tree.cursor(false));
            Check.throwsAnd(tree, "next after remove of " + key, NoSuchElementException.class, () -> tree.next());
        }
    }
}
