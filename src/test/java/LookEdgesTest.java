/** Promises 10 to 14: each sentence that names a boundary, with a test of its own. */
final class LookEdgesTest {
    private static final int[] NO_PAGES = {Integer.MIN_VALUE, -40, -2, -1, 40, 41, Integer.MAX_VALUE};
    private static final int[] NO_FRAMES = {Integer.MIN_VALUE, -12, -1, 12, 13, 39, Integer.MAX_VALUE};
    private static final int[] NOT_TOLD = {Integer.MIN_VALUE, -2, -1, 3, 4, Integer.MAX_VALUE};

    public static void main(String[] args) {
        pageAsItIs();
        pageKinds();
        pageCounts();
        pageNextLeaf();
        pageTooSmallOrLarge();
        pageWhatIsNoneThatIsTold();
        itemOfALeaf();
        itemOfAnInnerPage();
        itemTooSmallOrLarge();
        itemOfNoPage();
        itemThatWent();
        framePage();
        frameUsedAndDirty();
        frameTooSmallOrLarge();
        frameWhatIsNoneThatIsTold();
        toldOfANewObject();
        toldOfEach();
        toldOfAnotherWhat();
        astrayOfNone();
        Check.end();
    }

    // ------------------------------------------------------------ promise 10

    /** Neither a page that was not written yet nor one in no frame is told otherwise, and none is touched. */
    private static void pageAsItIs() {
        Check.sentence("Of a page, as it is");
        PagedTree tree = Trees.tens(4);
        Check.dueText("not written", State.page(tree, 1), "1 leaf 20=25 30=35 40=45");
        Trees.cool(tree);
        Check.dueText("in no frame", State.page(tree, 1), "1 leaf 20=25 30=35 40=45");
        Check.dueText("still in no frame", State.frames(tree), "");
        tree.put(40, 0);
        Check.dueText("changed and not written", State.page(tree, 1), "1 leaf 20=25 30=35 40=0");
    }

    private static void pageKinds() {
        Check.sentence("what it is, 0 free, 1 a leaf, 2 inner (what = 0)");
        PagedTree tree = Trees.tens(4);
        Check.due("a leaf", tree.page(0, 0), 1);
        Check.due("inner", tree.page(2, 0), 2);
        Check.due("free", tree.page(3, 0), 0);
        Check.due("the last page", tree.page(39, 0), 0);
        Trees.take(tree, 40, 0);
        Check.due("free again", tree.page(1, 0) + tree.page(2, 0), 0);
    }

    private static void pageCounts() {
        Check.sentence("how many entries or children it has (1)");
        PagedTree tree = new PagedTree();
        Check.due("none", tree.page(0, 1), 0);
        for (int key = 1; key <= 4; key++) {
            tree.put(key, 0);
            Check.due("entries", tree.page(0, 1), key);
        }
        tree.put(5, 0);
        Check.due("entries that stay", tree.page(0, 1), 2);
        Check.due("entries that go", tree.page(1, 1), 3);
        Check.due("children", tree.page(2, 1), 2);
        Check.due("of a free page", tree.page(3, 1), 0);
        Check.due("of the last page", tree.page(39, 1), 0);
        Check.due("four children", Trees.tens(9).page(2, 1), 4);
    }

    private static void pageNextLeaf() {
        Check.sentence("the next leaf (2; NONE)");
        PagedTree tree = Trees.tens(4);
        Check.due("of the first leaf", tree.page(0, 2), 1);
        Check.due("of the last leaf", tree.page(1, 2), PagedTree.NONE);
        Check.due("of an inner page", tree.page(2, 2), PagedTree.NONE);
        Check.due("of a free page", tree.page(3, 2), PagedTree.NONE);
        Check.due("of the last page", tree.page(39, 2), PagedTree.NONE);
        Trees.take(tree, 40, 0);
        Check.due("of a leaf that is alone again", tree.page(0, 2), PagedTree.NONE);
        // Pages 1 and 3, once leaves, and 6, once inner, are free; then 3 becomes inner, and 6 a leaf.
        PagedTree turned = Trees.tens(21);
        Trees.take(turned, 0, 10, 20);
        Trees.add(turned, 220, 230, 240);
        Check.dueText("a page that was a leaf", State.page(turned, 3), "3 inner 0:12 180:14 200:1 220:6");
        Check.dueText("a page that was inner", State.page(turned, 6), "6 leaf 220=225 230=235 240=245");
        Check.due("of a page that was a leaf", turned.page(3, 2), PagedTree.NONE);
        Check.due("of a page that was inner", turned.page(6, 2), PagedTree.NONE);
        Check.due("of the leaf before it", turned.page(1, 2), 6);
    }

    private static void pageTooSmallOrLarge() {
        Check.sentence("IndexOutOfBounds: there is no such page, frame, or item.");
        PagedTree tree = Trees.tens(4);
        for (int page : NO_PAGES) {
            for (int what = 0; what <= 2; what++) {
                int asked = what;
                Check.throwsAnd(tree, "page(" + page + ", " + what + ")", IndexOutOfBoundsException.class, () -> tree.page(page, asked));
            }
        }
    }

    private static void pageWhatIsNoneThatIsTold() {
        Check.sentence("IllegalArgument: what is none that is told.");
        PagedTree tree = Trees.tens(4);
        for (int what : NOT_TOLD) {
            for (int page : new int[] {0, 2, 3, 39}) {
                Check.throwsAnd(tree, "page(" + page + ", " + what + ")", IllegalArgumentException.class, () -> tree.page(page, what));
            }
        }
    }

    // ------------------------------------------------------------ promise 11

    private static void itemOfALeaf() {
        Check.sentence("Of item i of a page: the key, or mark (0 for a first child), or (on second) the value, or child.");
        PagedTree tree = Trees.tens(3);
        for (int i = 0; i <= 3; i++) {
            Check.due("key " + i, tree.item(0, i, false), i * 10);
            Check.due("value " + i, tree.item(0, i, true), i * 10 + 5);
        }
    }

    private static void itemOfAnInnerPage() {
        Check.sentence("the key, or mark (0 for a first child), or (on second) the value, or child");
        PagedTree tree = Trees.tens(9);
        int[] marks = {0, 20, 40, 60};
        int[] children = {0, 1, 3, 4};
        for (int i = 0; i <= 3; i++) {
            Check.due("mark " + i, tree.item(2, i, false), marks[i]);
            Check.due("child " + i, tree.item(2, i, true), children[i]);
        }
        dueFirstMarks("after splits", Trees.tens(24));
        PagedTree given = Trees.tens(10);
        Trees.take(given, 0);
        dueFirstMarks("after the right one gave", given);
        PagedTree left = Trees.tens(21);
        Trees.add(left, 41, 42, 43);
        Trees.take(left, 80);
        dueFirstMarks("after the left one gave", left);
        PagedTree joined = Trees.tens(21);
        Trees.take(joined, 0);
        dueFirstMarks("after pages joined", joined);
    }

    /** The first child of each inner page shows 0. */
    private static void dueFirstMarks(String what, PagedTree tree) {
        for (int page = 0; page < 40; page++) {
            if (tree.page(page, 0) == 2) {
                Check.due("first mark of page " + page + " " + what, tree.item(page, 0, false), 0);
            }
        }
    }

    private static void itemTooSmallOrLarge() {
        Check.sentence("IndexOutOfBounds: also when there is none.");
        PagedTree tree = Trees.tens(9);
        dueNoItems(tree, 0, 2);
        dueNoItems(tree, 4, 4);
        dueNoItems(tree, 2, 4);
        dueNoItems(tree, 5, 0);
        dueNoItems(tree, 39, 0);
        dueNoItems(new PagedTree(), 0, 0);
    }

    /** A page with so many items has none before the first and none from there on. */
    private static void dueNoItems(PagedTree tree, int page, int count) {
        for (int i : new int[] {Integer.MIN_VALUE, -1, count, count + 1, 5, 40, Integer.MAX_VALUE}) {
            Check.throwsAnd(tree, "item(" + page + ", " + i + ", false)", IndexOutOfBoundsException.class, () -> tree.item(page, i, false));
            Check.throwsAnd(tree, "item(" + page + ", " + i + ", true)", IndexOutOfBoundsException.class, () -> tree.item(page, i, true));
        }
    }

    private static void itemOfNoPage() {
        Check.sentence("IndexOutOfBounds: there is no such page, frame, or item.");
        PagedTree tree = Trees.tens(4);
        for (int page : NO_PAGES) {
            for (int i : new int[] {-1, 0, 4}) {
                Check.throwsAnd(tree, "item(" + page + ", " + i + ")", IndexOutOfBoundsException.class, () -> tree.item(page, i, true));
            }
        }
    }

    private static void itemThatWent() {
        Check.sentence("IndexOutOfBounds: also when there is none.");
        PagedTree removed = Trees.tens(3);
        removed.remove(30);
        dueNoItems(removed, 0, 3);
        PagedTree split = Trees.tens(4);
        dueNoItems(split, 0, 2);
        PagedTree joined = Trees.tens(4);
        Trees.take(joined, 40, 0);
        dueNoItems(joined, 1, 0);
        dueNoItems(joined, 2, 0);
    }

    // ------------------------------------------------------------ promise 12

    private static void framePage() {
        Check.sentence("its page (what = 0; NONE)");
        PagedTree tree = Trees.coldTens(4);
        Check.due("empty", tree.frame(0, 0), PagedTree.NONE);
        tree.get(0);
        Check.due("the root", tree.frame(0, 0), 2);
        Check.due("page 0", tree.frame(1, 0), 0);
        Check.due("empty still", tree.frame(2, 0), PagedTree.NONE);
        Check.due("the last one", tree.frame(11, 0), PagedTree.NONE);
    }

    private static void frameUsedAndDirty() {
        Check.sentence("whether it is used (1), dirty (2), each 1 or 0");
        PagedTree tree = Trees.coldTens(4);
        Check.due("empty, used", tree.frame(0, 1), 0);
        Check.due("empty, dirty", tree.frame(0, 2), 0);
        tree.put(0, 0);
        Check.due("root, used", tree.frame(0, 1), 1);
        Check.due("root, dirty", tree.frame(0, 2), 0);
        Check.due("leaf, used", tree.frame(1, 1), 1);
        Check.due("leaf, dirty", tree.frame(1, 2), 1);
        // Of twelve dirty frames some are used no more.
        PagedTree full = Trees.tens(21);
        Check.due("used no more", full.frame(3, 1), 0);
        Check.due("dirty still", full.frame(3, 2), 1);
    }

    private static void frameTooSmallOrLarge() {
        Check.sentence("IndexOutOfBounds: there is no such page, frame, or item.");
        PagedTree tree = Trees.tens(21);
        for (int frame : NO_FRAMES) {
            for (int what = 0; what <= 2; what++) {
                int asked = what;
                Check.throwsAnd(tree, "frame(" + frame + ", " + what + ")", IndexOutOfBoundsException.class, () -> tree.frame(frame, asked));
            }
        }
    }

    private static void frameWhatIsNoneThatIsTold() {
        Check.sentence("IllegalArgument: what is none that is told.");
        PagedTree tree = Trees.coldTens(4);
        tree.get(0);
        for (int what : NOT_TOLD) {
            for (int frame : new int[] {0, 2, 11}) {
                Check.throwsAnd(tree, "frame(" + frame + ", " + what + ")", IllegalArgumentException.class, () -> tree.frame(frame, what));
            }
        }
    }

    // ------------------------------------------------------------ promise 13

    private static void dueTold(String what, PagedTree tree, int... due) {
        for (int i = 0; i < due.length; i++) {
            Check.due(what + ": told(" + i + ")", tree.told(i), due[i]);
        }
    }

    private static void toldOfANewObject() {
        Check.sentence("Keys (what = 0), the root (1), levels of pages (2), pages that are not free (3), hits (4), read (5) "
            + "and written pages (6), the hand (7)");
        dueTold("a new object", new PagedTree(), 0, 0, 1, 1, 0, 0, 0, 0);
    }

    private static void toldOfEach() {
        Check.sentence("Keys (what = 0), the root (1), levels of pages (2), pages that are not free (3), hits (4), read (5) "
            + "and written pages (6), the hand (7)");
        PagedTree tree = new PagedTree();
        tree.put(1, 1);
        dueTold("one key", tree, 1, 0, 1, 1, 0, 1, 0, 1);
        tree.put(1, 2);
        dueTold("a known key", tree, 1, 0, 1, 1, 1, 1, 0, 1);
        Trees.add(tree, 2, 3, 4, 5);
        dueTold("a root above", tree, 5, 2, 2, 3, 5, 1, 0, 3);
        tree.flush();
        dueTold("flush", tree, 5, 2, 2, 3, 5, 1, 3, 3);
        tree.drop();
        dueTold("drop", tree, 5, 2, 2, 3, 5, 1, 3, 0);
        tree.seek(5);
        dueTold("seek", tree, 5, 2, 2, 3, 5, 3, 3, 2);
        tree.next();
        dueTold("next", tree, 5, 2, 2, 3, 6, 3, 3, 2);
        tree.remove(5);
        tree.remove(4);
        dueTold("a root that went", tree, 3, 0, 1, 1, 10, 4, 3, 3);
        dueTold("four levels", Trees.tens(24), 25, 18, 4, 20);
        PagedTree forty = Trees.tens(45);
        Trees.add(forty, 1, 2, 3, 4, 5, 41, 42, 43);
        dueTold("all pages", forty, 54, 18, 4, 40);
    }

    private static void toldOfAnotherWhat() {
        Check.sentence("NONE for another what");
        PagedTree tree = Trees.tens(4);
        for (int what : new int[] {Integer.MIN_VALUE, -2, -1, 8, 9, Integer.MAX_VALUE}) {
            Check.due("told(" + what + ")", tree.told(what), PagedTree.NONE);
        }
    }

    // ------------------------------------------------------------ promise 14

    private static void astrayOfNone() {
        Check.sentence("For how many pages what is said of them is not so");
        Check.due("a new object", new PagedTree().astray(), 0);
        PagedTree emptied = Trees.of(1);
        emptied.remove(1);
        Check.due("an empty map", emptied.astray(), 0);
        PagedTree ints = Trees.of(Integer.MIN_VALUE, 2147483642, 0, -1, 1);
        Check.due("the edges of int", ints.astray(), 0);
        PagedTree forty = Trees.tens(45);
        Trees.add(forty, 1, 2, 3, 4, 5, 41, 42, 43);
        Check.due("all pages", forty.astray(), 0);
        PagedTree stale = Trees.tens(4);
        stale.remove(20);
        Check.due("a mark that is no key", stale.astray(), 0);
        stale.flush();
        stale.drop();
        Check.due("no page in a frame", stale.astray(), 0);
        PagedTree full = Trees.tens(21);
        String before = State.of(full);
        Check.due("all frames", full.astray(), 0);
        Check.dueText("nothing changes", State.of(full), before);
    }
}
