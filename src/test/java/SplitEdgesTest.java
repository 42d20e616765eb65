import java.util.Arrays;

/** Each sentence of "Terms" on pages, the way and splitting that names a boundary, with a test of its own. */
final class SplitEdgesTest {
    public static void main(String[] args) {
        firstRoot();
        firstAndLastPage();
        entriesByRisingKeys();
        childrenInOrder();
        nextLeafOrNone();
        firstChildWithoutMark();
        wayByMarks();
        wayOfFirstChild();
        wayByMarkThatIsNoKey();
        fourEntries();
        fourChildren();
        fifthEntry();
        fifthChild();
        leastFreePage();
        nextToSplitLeaf();
        rightBehindSplitPage();
        markOfNewLeaf();
        markOfNewInnerPage();
        leafRootSplits();
        innerRootSplits();
        leastFreePageForRoot();
        Check.end();
    }

    private static void firstRoot() {
        Check.sentence("The ROOT is at first page 0, a leaf without entries.");
        PagedTree tree = new PagedTree();
        Check.due("the root", tree.told(1), 0);
        Check.due("what page 0 is", tree.page(0, 0), 1);
        Check.due("its entries", tree.page(0, 1), 0);
        Check.due("its next leaf", tree.page(0, 2), PagedTree.NONE);
    }

    private static void firstAndLastPage() {
        Check.sentence("PAGES are 0 .. 39, each free, a LEAF or an INNER page.");
        PagedTree tree = Trees.tens(45);
        Trees.add(tree, 1, 2, 3, 4, 5, 41, 42, 43);
        int[] kinds = new int[3];
        for (int page = 0; page <= 39; page++) {
            kinds[tree.page(page, 0)]++;
        }
        Check.due("pages that are free", kinds[0], 0);
        Check.due("pages in all", kinds[1] + kinds[2], 40);
        Check.dueText("the last page", State.page(tree, 39), "39 leaf 42=47 43=48 50=55 then 4");
        Check.throwsAnd(tree, "page -1", IndexOutOfBoundsException.class, () -> tree.page(-1, 0));
        Check.throwsAnd(tree, "page 40", IndexOutOfBoundsException.class, () -> tree.page(40, 0));
    }

    private static void entriesByRisingKeys() {
        Check.sentence("A leaf has ENTRIES, a key and a value each, by rising keys");
        Trees.duePages("falling", Trees.of(40, 30, 20, 10), "0 leaf 10=15 20=25 30=35 40=45");
        Trees.duePages("mixed", Trees.of(20, -10, 0, -20), "0 leaf -20=-15 -10=-5 0=5 20=25");
        PagedTree tree = Trees.of(20, 10, 30);
        Trees.take(tree, 10);
        Trees.duePages("without the first", tree, "0 leaf 20=25 30=35");
        Trees.add(tree, 25);
        Trees.take(tree, 25, 30);
        Trees.duePages("without the last two", tree, "0 leaf 20=25");
    }

    private static void childrenInOrder() {
        Check.sentence("An inner page has CHILDREN, pages, in order");
        PagedTree tree = Trees.of(90, 80, 70, 60, 50, 40, 30, 20);
        Trees.duePages("falling", tree, "0 leaf 20=25 30=35 then 3", "3 leaf 40=45 50=55 60=65 then 1",
            "1 leaf 70=75 80=85 90=95", "2 inner 0:0 40:3 70:1");
    }

    private static void nextLeafOrNone() {
        Check.sentence("tells the NEXT leaf, or none.");
        PagedTree tree = Trees.tens(10);
        int[] due = {1, 3, PagedTree.NONE, 4, 5, PagedTree.NONE, PagedTree.NONE, PagedTree.NONE, PagedTree.NONE};
        for (int page = 0; page < due.length; page++) {
            Check.due("page(" + page + ", 2)", tree.page(page, 2), due[page]);
        }
    }

    private static void firstChildWithoutMark() {
        Check.sentence("each but its first one has a MARK there, a key.");
        PagedTree tree = Trees.of(-50, -40, -30, -20, -10);
        Trees.duePages("keys below 0", tree, "0 leaf -50=-45 -40=-35 then 1", "1 leaf -30=-25 -20=-15 -10=-5", "2 inner 0:0 -30:1");
        // A first child has no mark, not one of 0: each key below the mark goes there, above 0 too.
        Check.due("a key of the first child", tree.get(-50), -45);
        PagedTree high = Trees.of(50, 60, 70, 80, 90, -1);
        Trees.duePages("keys above 0", high, "0 leaf -1=4 50=55 60=65 then 1", "1 leaf 70=75 80=85 90=95", "2 inner 0:0 70:1");
        PagedTree zero = Trees.of(-20, -10, 0, 10, 20);
        Trees.duePages("a mark of 0", zero, "0 leaf -20=-15 -10=-5 then 1", "1 leaf 0=5 10=15 20=25", "2 inner 0:0 0:1");
        Check.due("the key 0", zero.get(0), 5);
    }

    /** The pages of a way come into the frames in their order. */
    private static void dueWay(PagedTree tree, int key, int... way) {
        Trees.cool(tree);
        tree.seek(key);
        for (int i = 0; i < way.length; i++) {
            Check.due("page " + i + " of the way of " + key, tree.frame(i, 0), way[i]);
        }
    }

    private static void wayByMarks() {
        Check.sentence("by its last child whose mark is not above the key");
        PagedTree tree = Trees.tens(10);
        dueWay(tree, 19, 7, 2, 0);
        dueWay(tree, 20, 7, 2, 1);
        dueWay(tree, 21, 7, 2, 1);
        dueWay(tree, 39, 7, 2, 1);
        dueWay(tree, 40, 7, 6, 3);
        dueWay(tree, 59, 7, 6, 3);
        dueWay(tree, 60, 7, 6, 4);
        dueWay(tree, 79, 7, 6, 4);
        dueWay(tree, 80, 7, 6, 5);
        dueWay(tree, 101, 7, 6, 5);
        dueWay(tree, Integer.MAX_VALUE, 7, 6, 5);
    }

    private static void wayOfFirstChild() {
        Check.sentence("or else its first child, and so on, to a leaf.");
        PagedTree tree = Trees.tens(10);
        dueWay(tree, 0, 7, 2, 0);
        dueWay(tree, -1, 7, 2, 0);
        dueWay(tree, Integer.MIN_VALUE, 7, 2, 0);
        dueWay(tree, 41, 7, 6, 3);
        PagedTree leafAlone = Trees.of(10);
        dueWay(leafAlone, 5, 0);
        Check.due("a root that is a leaf is all of the way", leafAlone.frame(1, 0), PagedTree.NONE);
    }

    private static void wayByMarkThatIsNoKey() {
        Check.sentence("last child whose mark is not above the key");
        PagedTree tree = Trees.tens(4);
        Trees.take(tree, 20);
        Trees.duePages("without 20", tree, "0 leaf 0=5 10=15 then 1", "1 leaf 30=35 40=45", "2 inner 0:0 20:1");
        Trees.add(tree, 20, 19);
        Trees.duePages("20 and 19", tree, "0 leaf 0=5 10=15 19=24 then 1", "1 leaf 20=25 30=35 40=45", "2 inner 0:0 20:1");
    }

    private static void fourEntries() {
        Check.sentence("A leaf may have 4 entries");
        Trees.duePages("four", Trees.tens(3), "0 leaf 0=5 10=15 20=25 30=35");
        PagedTree tree = Trees.tens(6);
        Trees.add(tree, 21, 22);
        Trees.duePages("four in the middle", tree, "0 leaf 0=5 10=15 then 1", "1 leaf 20=25 21=26 22=27 30=35 then 3",
            "3 leaf 40=45 50=55 60=65", "2 inner 0:0 20:1 40:3");
        Check.due("put of a key that a full leaf has", tree.put(22, 7), false);
        Check.due("pages", tree.told(3), 4);
    }

    private static void fourChildren() {
        Check.sentence("an inner page 4 children");
        PagedTree tree = Trees.tens(9);
        Trees.duePages("four", tree, "0 leaf 0=5 10=15 then 1", "1 leaf 20=25 30=35 then 3", "3 leaf 40=45 50=55 then 4",
            "4 leaf 60=65 70=75 80=85 90=95", "2 inner 0:0 20:1 40:3 60:4");
        Check.due("levels", tree.told(2), 2);
    }

    /** The fifth key comes before, between and behind the four that are there. */
    private static void fifthEntry() {
        Check.sentence("if it has 5, it SPLITS: its first two stay, the others go to a new page, the least that is free, in the same order");
        for (int fifth : new int[] {Integer.MIN_VALUE, 15, 25, 35, 2147483640}) {
            PagedTree tree = Trees.of(10, 20, 30, 40, fifth);
            int[] keys = {10, 20, 30, 40, fifth};
            Arrays.sort(keys);
            String[] entries = new String[5];
            for (int i = 0; i < 5; i++) {
                entries[i] = keys[i] + "=" + (keys[i] + 5);
            }
            Trees.duePages("fifth key " + fifth, tree, "0 leaf " + entries[0] + " " + entries[1] + " then 1",
                "1 leaf " + entries[2] + " " + entries[3] + " " + entries[4], "2 inner 0:0 " + keys[2] + ":1");
        }
    }

    /** The fifth child comes behind each of the four that are there. */
    private static void fifthChild() {
        Check.sentence("if it has 5, it SPLITS: its first two stay, the others go to a new page");
        dueInner(new int[] {1, 2, 3}, "2 inner 0:0 2:5", "6 inner 0:1 40:3 60:4", "7 inner 0:2 20:6");
        dueInner(new int[] {21, 22, 23}, "2 inner 0:0 20:1", "6 inner 0:5 40:3 60:4", "7 inner 0:2 22:6");
        dueInner(new int[] {41, 42, 43}, "2 inner 0:0 20:1", "6 inner 0:3 42:5 60:4", "7 inner 0:2 40:6");
        dueInner(new int[] {100}, "2 inner 0:0 20:1", "6 inner 0:3 60:4 80:5", "7 inner 0:2 40:6");
    }

    private static void dueInner(int[] keys, String... pages) {
        PagedTree tree = Trees.tens(9);
        Trees.add(tree, keys);
        for (String page : pages) {
            int number = page.charAt(0) - '0';
            Check.dueText("after " + keys[0], State.page(tree, number) + "\n", page + "\n");
        }
        Check.due("pages after " + keys[0], tree.told(3), 8);
        Check.due("astray after " + keys[0], tree.astray(), 0);
    }

    /** Pages 0, 2, 3 and 5 are there; 1, 4, 6 and 7 were, and became free in another order. */
    private static PagedTree withHoles() {
        PagedTree tree = Trees.tens(10);
        Trees.take(tree, 40, 20);
        Trees.duePages("with holes", tree, "0 leaf 0=5 10=15 30=35 then 3", "3 leaf 50=55 60=65 70=75 then 5",
            "5 leaf 80=85 90=95 100=105", "2 inner 0:0 40:3 80:5");
        return tree;
    }

    private static void leastFreePage() {
        Check.sentence("the others go to a new page, the least that is free");
        PagedTree tree = withHoles();
        Trees.add(tree, 110, 120);
        Trees.duePages("the least is 1", tree, "0 leaf 0=5 10=15 30=35 then 3", "3 leaf 50=55 60=65 70=75 then 5",
            "5 leaf 80=85 90=95 then 1", "1 leaf 100=105 110=115 120=125", "2 inner 0:0 40:3 80:5 100:1");
    }

    private static void nextToSplitLeaf() {
        Check.sentence("(of a leaf: that comes next to it, before what was next)");
        PagedTree first = Trees.tens(6);
        Trees.add(first, 1, 2, 3);
        dueNext(first, "first", 0, 4, 1, 3, PagedTree.NONE);
        PagedTree middle = Trees.tens(6);
        Trees.add(middle, 21, 22, 23);
        dueNext(middle, "middle", 0, 1, 4, 3, PagedTree.NONE);
        PagedTree last = Trees.tens(6);
        Trees.add(last, 61, 62);
        dueNext(last, "last", 0, 1, 3, 4, PagedTree.NONE);
    }

    private static void dueNext(PagedTree tree, String what, int... leaves) {
        for (int i = 0; i + 1 < leaves.length; i++) {
            Check.due("the " + what + " leaf split: next of " + leaves[i], tree.page(leaves[i], 2), leaves[i + 1]);
        }
    }

    private static void rightBehindSplitPage() {
        Check.sentence("The new page is a child of the same parent, right behind it");
        PagedTree first = Trees.tens(6);
        Trees.add(first, 1, 2, 3);
        Check.dueText("behind the first", State.page(first, 2), "2 inner 0:0 2:4 20:1 40:3");
        PagedTree middle = Trees.tens(6);
        Trees.add(middle, 21, 22, 23);
        Check.dueText("behind a middle one", State.page(middle, 2), "2 inner 0:0 20:1 22:4 40:3");
        PagedTree last = Trees.tens(6);
        Trees.add(last, 61, 62);
        Check.dueText("behind the last", State.page(last, 2), "2 inner 0:0 20:1 40:3 60:4");
        PagedTree inner = Trees.tens(21);
        Trees.take(inner, 0);
        Trees.add(inner, 81, 82, 83, 84, 85, 86, 87);
        Check.dueText("behind a middle inner page", State.page(inner, 7), "7 inner 0:2 80:10 84:16 120:13");
    }

    private static void markOfNewLeaf() {
        Check.sentence("its mark is the first key of it");
        PagedTree tree = Trees.of(10, 20, 30, 40, 25);
        Check.due("the mark", tree.item(2, 1, false), 25);
        Check.due("the first key", tree.item(1, 0, false), 25);
    }

    private static void markOfNewInnerPage() {
        Check.sentence("or (inner) that which the first of the children that went had, and has there no more");
        PagedTree tree = Trees.tens(10);
        Check.due("the mark of the new page", tree.item(7, 1, false), 40);
        Check.due("the new page", tree.item(7, 1, true), 6);
        Check.due("the first of the children that went", tree.item(6, 0, true), 3);
        Check.due("what it has there", tree.item(6, 0, false), 0);
        // The mark goes up, though it is no key any more.
        PagedTree stale = Trees.tens(9);
        Trees.add(stale, 41);
        Trees.take(stale, 40);
        Trees.add(stale, 100);
        Check.dueText("the root with a mark that is no key", State.page(stale, 7), "7 inner 0:2 40:6");
        Check.dueText("the leaf", State.page(stale, 3), "3 leaf 41=46 50=55 then 4");
    }

    private static void leafRootSplits() {
        Check.sentence("If the root splits, a new root, the least page that is free then, has both as children.");
        PagedTree tree = Trees.tens(4);
        Trees.duePages("a leaf", tree, "0 leaf 0=5 10=15 then 1", "1 leaf 20=25 30=35 40=45", "2 inner 0:0 20:1");
        Check.due("the root", tree.told(1), 2);
        Check.due("levels", tree.told(2), 2);
    }

    private static void innerRootSplits() {
        Check.sentence("If the root splits, a new root, the least page that is free then, has both as children.");
        PagedTree tree = Trees.tens(22);
        Check.due("the root", tree.told(1), 18);
        Check.due("levels", tree.told(2), 4);
        Check.dueText("the new root", State.page(tree, 18), "18 inner 0:7 80:17");
        Check.dueText("the old root", State.page(tree, 7), "7 inner 0:2 40:6");
        Check.dueText("the page beside it", State.page(tree, 17), "17 inner 0:10 120:13 160:16");
        Check.dueText("the inner page below that split", State.page(tree, 16), "16 inner 0:12 180:14 200:15");
    }

    private static void leastFreePageForRoot() {
        Check.sentence("a new root, the least page that is free then");
        PagedTree tree = withHoles();
        Trees.add(tree, 1, 2, 51, 52);
        Trees.duePages("holes taken in order", tree, "0 leaf 0=5 1=6 then 1", "1 leaf 2=7 10=15 30=35 then 3",
            "3 leaf 50=55 51=56 then 4", "4 leaf 52=57 60=65 70=75 then 5", "5 leaf 80=85 90=95 100=105",
            "2 inner 0:0 2:1", "6 inner 0:3 52:4 80:5", "7 inner 0:2 40:6");
        Check.due("the root", tree.told(1), 7);
    }
}
