import java.util.NoSuchElementException;

/** Promises 5 to 7: each sentence that names a boundary, with a test of its own. */
final class CursorEdgesTest {
    public static void main(String[] args) {
        seekLeastNotBelow();
        seekFindsNone();
        seekTouchesTheWay();
        seekInTheNextLeaf();
        seekInTheNextLeafOfAnotherParent();
        seekWithoutNextLeaf();
        seekEdgesOfInt();
        nextGoesOnByOne();
        nextBehindTheLastKey();
        nextTouchesItsLeaf();
        nextInTheNextLeaf();
        nextReadsWhatLeft();
        nextAfterTheEnd();
        cursorKeyAndValue();
        cursorAfterTheEnd();
        cursorStays();
        Check.end();
    }

    private static void dueCursor(PagedTree tree, String what, int key) {
        Check.due(what + ": key", tree.cursor(false), key);
        Check.due(what + ": value", tree.cursor(true), key + 5);
    }

    private static void dueEnded(PagedTree tree, String what) {
        Check.throwsAnd(tree, what + ": key", NoSuchElementException.class, () -> tree.cursor(false));
        Check.throwsAnd(tree, what + ": value", NoSuchElementException.class, () -> tree.cursor(true));
        Check.throwsAnd(tree, what + ": next", NoSuchElementException.class, () -> tree.next());
    }

    // ------------------------------------------------------------ promise 5

    private static void seekLeastNotBelow() {
        Check.sentence("The cursor is at the least key that is not below one");
        PagedTree tree = Trees.tens(10);
        for (int key = -5; key <= 100; key++) {
            Check.due("seek of " + key, tree.seek(key), true);
            dueCursor(tree, "after seek of " + key, Math.max(0, (key + 9) / 10 * 10));
        }
    }

    private static void seekFindsNone() {
        Check.sentence("whether there is any (else it has ended)");
        PagedTree tree = Trees.tens(10);
        tree.seek(50);
        Check.due("seek above all keys", tree.seek(101), false);
        dueEnded(tree, "above all keys");
        PagedTree empty = new PagedTree();
        Check.due("seek in an empty map", empty.seek(0), false);
        dueEnded(empty, "in an empty map");
        PagedTree emptied = Trees.of(1);
        emptied.remove(1);
        Check.due("seek in a map whose last key went", emptied.seek(1), false);
        dueEnded(emptied, "in a map whose last key went");
    }

    private static void seekTouchesTheWay() {
        Check.sentence("The pages of that key's way are touched");
        PagedTree tree = Trees.coldTens(10);
        tree.seek(30);
        Check.dueText("the last key of leaf 1", State.frames(tree), "0: 7 used\n1: 2 used\n2: 1 used\n");
        tree.drop();
        // 35 goes on to 40, but the way that is touched is that of 35.
        tree.seek(35);
        Check.due("the leaf of the way", tree.frame(2, 0), 1);
        PagedTree empty = new PagedTree();
        empty.seek(0);
        Check.dueText("the root of an empty map", State.frames(empty), "0: 0 used\n");
    }

    private static void seekInTheNextLeaf() {
        Check.sentence("if its leaf has no such key, the next one, if there is one");
        PagedTree tree = Trees.coldTens(4);
        Check.due("seek", tree.seek(11), true);
        dueCursor(tree, "after seek of 11", 20);
        Check.dueText("leaf 0 and the next one", State.frames(tree), "0: 2 used\n1: 0 used\n2: 1 used\n");
        Check.due("next", tree.next(), true);
        dueCursor(tree, "after next", 30);
    }

    private static void seekInTheNextLeafOfAnotherParent() {
        Check.sentence("if its leaf has no such key, the next one, if there is one");
        PagedTree tree = Trees.coldTens(10);
        Check.due("seek", tree.seek(39), true);
        dueCursor(tree, "after seek of 39", 40);
        Check.dueText("leaf 1 and the next one, whose parent is not touched", State.frames(tree), "0: 7 used\n1: 2 used\n2: 1 used\n3: 3 used\n");
    }

    private static void seekWithoutNextLeaf() {
        Check.sentence("if its leaf has no such key, the next one, if there is one");
        PagedTree tree = Trees.coldTens(4);
        Check.due("seek", tree.seek(41), false);
        Check.dueText("the last leaf alone", State.frames(tree), "0: 2 used\n1: 1 used\n");
    }

    private static void seekEdgesOfInt() {
        Check.sentence("The cursor is at the least key that is not below one");
        PagedTree tree = Trees.of(Integer.MIN_VALUE, 0, 2147483642);
        Check.due("seek of the least int", tree.seek(Integer.MIN_VALUE), true);
        dueCursor(tree, "the least int", Integer.MIN_VALUE);
        Check.due("seek of one more", tree.seek(Integer.MIN_VALUE + 1), true);
        dueCursor(tree, "one more", 0);
        Check.due("seek of the greatest int", tree.seek(Integer.MAX_VALUE), false);
        tree.put(Integer.MAX_VALUE, 1);
        Check.due("seek of the greatest int", tree.seek(Integer.MAX_VALUE), true);
        Check.due("its key", tree.cursor(false), Integer.MAX_VALUE);
        Check.due("next", tree.next(), false);
    }

    // ------------------------------------------------------------ promise 6

    private static void nextGoesOnByOne() {
        Check.sentence("The cursor goes on by one key: whether there is one");
        PagedTree tree = Trees.tens(24);
        tree.seek(0);
        for (int key = 10; key <= 240; key += 10) {
            Check.due("next", tree.next(), true);
            dueCursor(tree, "next", key);
        }
    }

    private static void nextBehindTheLastKey() {
        Check.sentence("whether there is one (else it has ended)");
        PagedTree tree = Trees.tens(10);
        tree.seek(100);
        Check.due("next of the last key", tree.next(), false);
        dueEnded(tree, "behind the last key");
        PagedTree one = Trees.of(7);
        one.seek(7);
        Check.due("next of the only key", one.next(), false);
        dueEnded(one, "behind the only key");
        Check.due("seek again", one.seek(7), true);
        dueCursor(one, "seek again", 7);
    }

    private static void nextTouchesItsLeaf() {
        Check.sentence("Its leaf is touched");
        PagedTree tree = Trees.coldTens(10);
        tree.seek(80);
        dueTouched(tree, "in the leaf", 1, 0);
        dueTouched(tree, "in the leaf again", 1, 0);
        dueTouched(tree, "at the last key of all", 1, 0);
        dueEnded(tree, "behind it");
    }

    private static void dueTouched(PagedTree tree, String what, int hits, int read) {
        int hitsBefore = tree.told(4);
        int readBefore = tree.told(5);
        tree.next();
        Check.due("hits " + what, tree.told(4) - hitsBefore, hits);
        Check.due("read " + what, tree.told(5) - readBefore, read);
    }

    private static void nextInTheNextLeaf() {
        Check.sentence("if it was at its last entry, the next one, if there is one");
        PagedTree tree = Trees.coldTens(10);
        tree.seek(20);
        dueTouched(tree, "at the last but one of leaf 1", 1, 0);
        dueTouched(tree, "at the last of leaf 1", 1, 1);
        dueCursor(tree, "in leaf 3", 40);
        Check.dueText("leaf 3, and not its parent", State.frames(tree), "0: 7 used\n1: 2 used\n2: 1 used\n3: 3 used\n");
        dueTouched(tree, "at the first of leaf 3", 1, 0);
        dueCursor(tree, "in leaf 3", 50);
    }

    private static void nextReadsWhatLeft() {
        Check.sentence("Its leaf is touched");
        PagedTree tree = Trees.coldTens(24);
        tree.seek(0);
        tree.get(80);
        tree.get(100);
        tree.get(120);
        // Leaf 0 in frame 3 was touched by seek alone; two rounds of the hand make it leave.
        tree.get(140);
        tree.get(160);
        tree.get(180);
        tree.get(200);
        int inFrame = 0;
        for (int frame = 0; frame < 12; frame++) {
            inFrame += tree.frame(frame, 0) == 0 ? 1 : 0;
        }
        Check.due("leaf 0 in frames", inFrame, 0);
        dueTouched(tree, "of leaf 0", 0, 1);
        dueCursor(tree, "next", 10);
    }

    private static void nextAfterTheEnd() {
        Check.sentence("NoSuchElement: it has ended.");
        PagedTree fresh = new PagedTree();
        Check.throwsAnd(fresh, "next of a new object", NoSuchElementException.class, () -> fresh.next());
        PagedTree tree = Trees.coldTens(4);
        Check.throwsAnd(tree, "next before any seek", NoSuchElementException.class, () -> tree.next());
        tree.seek(40);
        tree.next();
        Check.throwsAnd(tree, "next after the end", NoSuchElementException.class, () -> tree.next());
        Check.throwsAnd(tree, "and again", NoSuchElementException.class, () -> tree.next());
    }

    // ------------------------------------------------------------ promise 7

    private static void cursorKeyAndValue() {
        Check.sentence("The key at the cursor, or (on value) what it had when the cursor came there.");
        PagedTree tree = new PagedTree();
        tree.put(1, 100);
        tree.put(2, PagedTree.NONE);
        tree.put(3, 0);
        tree.put(2, Integer.MIN_VALUE);
        tree.seek(2);
        Check.due("the key", tree.cursor(false), 2);
        Check.due("the value", tree.cursor(true), Integer.MIN_VALUE);
        Check.due("the value again", tree.cursor(true), Integer.MIN_VALUE);
        tree.next();
        Check.due("the next key", tree.cursor(false), 3);
        Check.due("its value", tree.cursor(true), 0);
        Trees.cool(tree);
        tree.seek(1);
        String frames = State.frames(tree);
        int hits = tree.told(4);
        tree.cursor(true);
        Check.dueText("no page is touched", State.frames(tree), frames);
        Check.due("hits", tree.told(4), hits);
    }

    private static void cursorAfterTheEnd() {
        Check.sentence("NoSuchElement: it has ended.");
        PagedTree fresh = new PagedTree();
        dueEnded(fresh, "a new object");
        PagedTree tree = Trees.tens(4);
        dueEnded(tree, "before any seek");
        tree.seek(99);
        dueEnded(tree, "a seek that found none");
        tree.seek(40);
        tree.next();
        dueEnded(tree, "a next that found none");
        tree.seek(40);
        tree.put(40, 0);
        dueEnded(tree, "put");
        tree.seek(40);
        tree.remove(99);
        dueEnded(tree, "remove");
        tree.flush();
        tree.seek(40);
        tree.drop();
        dueEnded(tree, "drop");
    }

    /** Only put, remove, drop, and a seek or next that finds none, end the cursor. */
    private static void cursorStays() {
        Check.sentence("The key at the cursor");
        PagedTree tree = Trees.tens(10);
        tree.seek(30);
        tree.get(90);
        tree.flush();
        tree.astray();
        tree.told(0);
        tree.page(1, 1);
        tree.item(1, 0, true);
        tree.frame(1, 0);
        dueCursor(tree, "after looks, get and flush", 30);
        Check.due("next", tree.next(), true);
        dueCursor(tree, "next", 40);
    }
}
