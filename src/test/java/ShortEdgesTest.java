/** Each sentence of "Terms" on pages that are short, give, get or join, with a test of its own. */
final class ShortEdgesTest {
    public static void main(String[] args) {
        rootIsNeverShort();
        twoEntriesAreEnough();
        twoChildrenAreEnough();
        leftLeafOfThreeOrFourGives();
        leftLeafOfTwoGivesNothing();
        rightLeafOfThreeOrFourGives();
        leftLeafGoesBeforeRight();
        leafOfAnotherParentIsNoLeftOne();
        leafOfAnotherParentIsNoRightOne();
        joinsLeftOne();
        joinsRightOne();
        pageWithoutAnyIsFree();
        nextIsToldByTheOneBefore();
        marksWhenLeavesGive();
        leftInnerPageGives();
        rightInnerPageGives();
        leftInnerPageGoesBeforeRight();
        innerPageJoinsLeftOne();
        innerPageJoinsRightOne();
        lastInnerPageJoins();
        rootWithOneLeafGoes();
        rootWithTwoStays();
        joinsOnEveryLevel();
        Check.end();
    }

    private static void rootIsNeverShort() {
        Check.sentence("A page but the root is SHORT with less than two entries, or children.");
        PagedTree tree = Trees.of(10, 20);
        Trees.take(tree, 10);
        Trees.duePages("one entry in the root", tree, "0 leaf 20=25");
        Trees.take(tree, 20);
        Trees.duePages("none in the root", tree, "0 leaf");
        Check.due("the root", tree.told(1), 0);
        Check.due("keys", tree.told(0), 0);
        Trees.add(tree, 30);
        Trees.duePages("one again", tree, "0 leaf 30=35");
    }

    private static void twoEntriesAreEnough() {
        Check.sentence("A page but the root is SHORT with less than two entries");
        PagedTree tree = Trees.coldTens(4);
        Trees.take(tree, 40);
        Trees.duePages("two entries", tree, "0 leaf 0=5 10=15 then 1", "1 leaf 20=25 30=35", "2 inner 0:0 20:1");
        Check.dueText("the leaf alone changes", State.frames(tree), "0: 2 used\n1: 1 used dirty\n");
    }

    private static void twoChildrenAreEnough() {
        Check.sentence("A page but the root is SHORT with less than two entries, or children.");
        PagedTree tree = Trees.coldTens(10);
        Trees.take(tree, 40);
        Trees.duePages("page 6 with two children", tree, "0 leaf 0=5 10=15 then 1", "1 leaf 20=25 30=35 then 3",
            "3 leaf 50=55 60=65 70=75 then 5", "5 leaf 80=85 90=95 100=105", "2 inner 0:0 20:1", "6 inner 0:3 80:5", "7 inner 0:2 40:6");
        Check.dueText("the root does not change, page 2 is not touched", State.frames(tree),
            "0: 7 used\n1: 6 used dirty\n2: 3 used dirty\n");
    }

    private static void leftLeafOfThreeOrFourGives() {
        Check.sentence("its LEFT one, with more than two, that GIVES its last");
        PagedTree three = Trees.tens(4);
        Trees.add(three, 5);
        Trees.take(three, 20);
        Trees.take(three, 40);
        Trees.duePages("left one of three", three, "0 leaf 0=5 5=10 then 1", "1 leaf 10=15 30=35", "2 inner 0:0 10:1");
        PagedTree four = Trees.tens(4);
        Trees.add(four, 5, 6);
        Trees.take(four, 30);
        Trees.take(four, 20);
        Trees.duePages("left one of four", four, "0 leaf 0=5 5=10 6=11 then 1", "1 leaf 10=15 40=45", "2 inner 0:0 10:1");
    }

    private static void leftLeafOfTwoGivesNothing() {
        Check.sentence("else, if there is one behind it, its RIGHT one, with more than two, that gives its first");
        PagedTree tree = Trees.coldTens(6);
        Trees.take(tree, 30);
        Trees.duePages("left one of two, right one of three", tree, "0 leaf 0=5 10=15 then 1", "1 leaf 20=25 40=45 then 3",
            "3 leaf 50=55 60=65", "2 inner 0:0 20:1 50:3");
        Check.dueText("the left one is touched and does not change", State.frames(tree),
            "0: 2 used dirty\n1: 1 used dirty\n2: 0 used\n3: 3 used dirty\n");
    }

    private static void rightLeafOfThreeOrFourGives() {
        Check.sentence("its RIGHT one, with more than two, that gives its first");
        PagedTree three = Trees.tens(4);
        Trees.take(three, 0);
        Trees.duePages("right one of three", three, "0 leaf 10=15 20=25 then 1", "1 leaf 30=35 40=45", "2 inner 0:0 30:1");
        PagedTree four = Trees.tens(5);
        Trees.take(four, 10);
        Trees.duePages("right one of four", four, "0 leaf 0=5 20=25 then 1", "1 leaf 30=35 40=45 50=55", "2 inner 0:0 30:1");
    }

    private static void leftLeafGoesBeforeRight() {
        Check.sentence("if there is a child of the same parent before it, its LEFT one, with more than two, that GIVES its last; else");
        PagedTree tree = Trees.tens(7);
        Trees.add(tree, 5);
        Trees.cool(tree);
        Trees.take(tree, 20);
        Trees.duePages("left one of three, right one of four", tree, "0 leaf 0=5 5=10 then 1", "1 leaf 10=15 30=35 then 3",
            "3 leaf 40=45 50=55 60=65 70=75", "2 inner 0:0 10:1 40:3");
        Check.dueText("the right one is not touched", State.frames(tree), "0: 2 used dirty\n1: 1 used dirty\n2: 0 used dirty\n");
    }

    private static void leafOfAnotherParentIsNoLeftOne() {
        Check.sentence("if there is a child of the same parent before it");
        PagedTree tree = Trees.tens(10);
        Trees.add(tree, 21, 22);
        Trees.take(tree, 40);
        Trees.duePages("leaf 1 of four is a child of 2, leaf 3 of 6", tree, "0 leaf 0=5 10=15 then 1",
            "1 leaf 20=25 21=26 22=27 30=35 then 3", "3 leaf 50=55 60=65 70=75 then 5", "5 leaf 80=85 90=95 100=105",
            "2 inner 0:0 20:1", "6 inner 0:3 80:5", "7 inner 0:2 40:6");
    }

    private static void leafOfAnotherParentIsNoRightOne() {
        Check.sentence("if there is one behind it, its RIGHT one");
        PagedTree tree = Trees.tens(10);
        Trees.add(tree, 41, 42);
        Trees.take(tree, 20);
        Trees.duePages("leaf 3 of four is a child of 6, leaf 1 of 2", tree, "0 leaf 0=5 10=15 30=35 then 3",
            "3 leaf 40=45 41=46 42=47 50=55 then 4", "4 leaf 60=65 70=75 then 5", "5 leaf 80=85 90=95 100=105",
            "2 inner 0:0 40:3", "6 inner 0:4 80:5", "7 inner 0:2 60:6");
    }

    private static void joinsLeftOne() {
        Check.sentence("else it JOINS: all of it goes behind what its left one has");
        PagedTree middle = Trees.tens(6);
        Trees.take(middle, 60);
        Trees.cool(middle);
        Trees.take(middle, 20);
        Trees.duePages("left and right one of two", middle, "0 leaf 0=5 10=15 30=35 then 3", "3 leaf 40=45 50=55", "2 inner 0:0 40:3");
        Check.dueText("the right one is touched and does not change", State.frames(middle), "0: 2 used dirty\n2: 0 used dirty\n3: 3 used\n");
        PagedTree last = Trees.tens(6);
        Trees.take(last, 60, 40);
        Trees.duePages("left one of two, no right one", last, "0 leaf 0=5 10=15 then 1", "1 leaf 20=25 30=35 50=55", "2 inner 0:0 20:1");
    }

    private static void joinsRightOne() {
        Check.sentence("or, without a left one, all of its right one comes behind its own");
        PagedTree tree = Trees.tens(6);
        Trees.take(tree, 0);
        Trees.duePages("no left one, right one of two", tree, "0 leaf 10=15 20=25 30=35 then 3", "3 leaf 40=45 50=55 60=65",
            "2 inner 0:0 40:3");
    }

    private static void pageWithoutAnyIsFree() {
        Check.sentence("the page that is left without any is free, and no child any more");
        PagedTree left = Trees.tens(6);
        Trees.take(left, 60, 20);
        dueFree(left, 1);
        PagedTree right = Trees.tens(6);
        Trees.take(right, 0);
        dueFree(right, 1);
        PagedTree inner = Trees.tens(21);
        Trees.take(inner, 40);
        dueFree(inner, 4);
        dueFree(inner, 6);
        Check.dueText("the children of the root", State.page(inner, 7), "7 inner 0:2 80:10 120:13");
    }

    private static void dueFree(PagedTree tree, int page) {
        Check.due("what it is", tree.page(page, 0), 0);
        Check.due("how many it has", tree.page(page, 1), 0);
        Check.due("its next leaf", tree.page(page, 2), PagedTree.NONE);
        Check.throwsAnd(tree, "its first item", IndexOutOfBoundsException.class, () -> tree.item(page, 0, false));
    }

    private static void nextIsToldByTheOneBefore() {
        Check.sentence("(the next of a leaf is then told by the one before it)");
        PagedTree middle = Trees.tens(6);
        Trees.take(middle, 60, 20);
        Check.due("next of leaf 0", middle.page(0, 2), 3);
        PagedTree last = Trees.tens(6);
        Trees.take(last, 60, 40);
        Check.due("next of leaf 1", last.page(1, 2), PagedTree.NONE);
        PagedTree lastOfParent = Trees.tens(10);
        Trees.take(lastOfParent, 20);
        Check.due("next of leaf 0, a child of another page", lastOfParent.page(0, 2), 3);
        PagedTree first = Trees.tens(6);
        Trees.take(first, 0);
        Check.due("next of leaf 0, joined by its right one", first.page(0, 2), 3);
    }

    private static void marksWhenLeavesGive() {
        Check.sentence("When a leaf gives to another one, the mark of the right one of both is its first key then.");
        PagedTree left = Trees.tens(7);
        Trees.add(left, 5);
        Trees.take(left, 20);
        Check.dueText("the left one gave", State.page(left, 2), "2 inner 0:0 10:1 40:3");
        PagedTree right = Trees.tens(6);
        Trees.take(right, 20);
        Check.dueText("the right one gave, the mark of the middle one stays", State.page(right, 2), "2 inner 0:0 20:1 50:3");
        // The mark 20 is no key any more; the mark after the gift is the first key.
        PagedTree stale = Trees.tens(5);
        Trees.take(stale, 20, 10);
        Check.dueText("the right one gave 30", State.page(stale, 2), "2 inner 0:0 40:1");
        Check.dueText("what it has", State.page(stale, 1), "1 leaf 40=45 50=55");
    }

    private static void leftInnerPageGives() {
        Check.sentence("When the left one of two inner pages gives, what was first in the right one has the mark now that the right one had, "
            + "and that has the mark that the child that is given had.");
        PagedTree tree = Trees.tens(10);
        Trees.add(tree, 1, 2, 3);
        Trees.take(tree, 100, 80, 70);
        // 2 has 0, 8 and 1 with marks 2 and 20; 6 has 3 and 4, and then 3 alone.
        Trees.cool(tree);
        Trees.take(tree, 90, 60);
        Trees.duePages("left one of three", tree, "0 leaf 0=5 1=6 then 8", "8 leaf 2=7 3=8 10=15 then 1", "1 leaf 20=25 30=35 then 3",
            "3 leaf 40=45 50=55", "2 inner 0:0 2:8", "6 inner 0:1 40:3", "7 inner 0:2 20:6");
    }

    private static void rightInnerPageGives() {
        Check.sentence("When the right one gives, the child that is given has the mark that the right one had, "
            + "and that has the mark that its first child now had.");
        PagedTree three = Trees.tens(10);
        Trees.take(three, 0);
        Check.dueText("the left one", State.page(three, 2), "2 inner 0:0 40:3");
        Check.dueText("the right one", State.page(three, 6), "6 inner 0:4 80:5");
        Check.dueText("the parent", State.page(three, 7), "7 inner 0:2 60:6");
        PagedTree four = Trees.coldTens(21);
        Trees.take(four, 80);
        Check.dueText("the middle one, whose left one has two", State.page(four, 10), "10 inner 0:5 120:9");
        Check.dueText("its right one of four", State.page(four, 13), "13 inner 0:11 160:12 180:14");
        Check.dueText("the parent of both", State.page(four, 7), "7 inner 0:2 40:6 80:10 140:13");
        Check.dueText("8 is free, 6 is touched and does not change", State.frames(four),
            "0: 7 used dirty\n1: 10 used dirty\n2: 5 used dirty\n4: 6 used\n5: 13 used dirty\n");
        Check.due("astray", three.astray() + four.astray(), 0);
    }

    private static void leftInnerPageGoesBeforeRight() {
        Check.sentence("its LEFT one, with more than two, that GIVES its last; else");
        PagedTree tree = Trees.tens(21);
        Trees.add(tree, 41, 42, 43);
        Trees.cool(tree);
        Trees.take(tree, 80);
        Check.dueText("the left one of three", State.page(tree, 6), "6 inner 0:3 42:15");
        Check.dueText("the one that was short", State.page(tree, 10), "10 inner 0:4 80:5");
        Check.dueText("the right one of four", State.page(tree, 13), "13 inner 0:9 140:11 160:12 180:14");
        Check.dueText("the parent", State.page(tree, 7), "7 inner 0:2 40:6 60:10 120:13");
        Check.dueText("13 is not touched", State.frames(tree), "0: 7 used dirty\n1: 10 used dirty\n2: 5 used dirty\n4: 6 used dirty\n");
        Check.due("astray", tree.astray(), 0);
    }

    private static void innerPageJoinsLeftOne() {
        Check.sentence("When inner pages join, the first child of the right one has the mark that that page had.");
        PagedTree tree = Trees.coldTens(21);
        Trees.take(tree, 40);
        Check.dueText("what was joined", State.page(tree, 2), "2 inner 0:0 20:1 40:3");
        Check.dueText("the right one", State.page(tree, 10), "10 inner 0:5 100:8");
        Check.dueText("the parent", State.page(tree, 7), "7 inner 0:2 80:10 120:13");
        Check.dueText("4 and 6 are free, 10 is touched and does not change", State.frames(tree),
            "0: 7 used dirty\n2: 3 used dirty\n4: 2 used dirty\n5: 10 used\n");
        Check.due("astray", tree.astray(), 0);
    }

    private static void innerPageJoinsRightOne() {
        Check.sentence("When inner pages join, the first child of the right one has the mark that that page had.");
        PagedTree tree = Trees.coldTens(21);
        Trees.take(tree, 0);
        Check.dueText("what was joined", State.page(tree, 2), "2 inner 0:0 40:3 60:4");
        Check.dueText("the parent", State.page(tree, 7), "7 inner 0:2 80:10 120:13");
        Check.dueText("1 and 6 are free", State.frames(tree), "0: 7 used dirty\n1: 2 used dirty\n2: 0 used dirty\n");
        Check.due("astray", tree.astray(), 0);
    }

    private static void lastInnerPageJoins() {
        Check.sentence("An inner root with one child goes: its page is free, the child is the root.");
        PagedTree tree = Trees.tens(10);
        Trees.take(tree, 100, 90, 80, 70);
        Trees.duePages("an inner child", tree, "0 leaf 0=5 10=15 then 1", "1 leaf 20=25 30=35 then 3", "3 leaf 40=45 50=55 60=65",
            "2 inner 0:0 20:1 40:3");
        Check.due("the root", tree.told(1), 2);
        Check.due("levels", tree.told(2), 2);
        dueFree(tree, 7);
    }

    private static void rootWithOneLeafGoes() {
        Check.sentence("An inner root with one child goes: its page is free, the child is the root.");
        PagedTree tree = Trees.tens(4);
        Trees.take(tree, 40, 0);
        Trees.duePages("a leaf", tree, "0 leaf 10=15 20=25 30=35");
        Check.due("the root", tree.told(1), 0);
        Check.due("levels", tree.told(2), 1);
        dueFree(tree, 2);
    }

    private static void rootWithTwoStays() {
        Check.sentence("An inner root with one child goes");
        PagedTree tree = Trees.tens(6);
        Trees.take(tree, 60, 40);
        Check.dueText("two leaves", State.page(tree, 2), "2 inner 0:0 20:1");
        Check.due("the root", tree.told(1), 2);
        Check.due("levels", tree.told(2), 2);
    }

    /** A leaf, a page above it and one above that join in one call, and the root of four levels goes. */
    private static void joinsOnEveryLevel() {
        Check.sentence("from the leaf up, for a page that is short");
        PagedTree tree = Trees.tens(24);
        Trees.take(tree, 0, 10, 20, 30);
        Check.due("levels before", tree.told(2), 4);
        Check.dueText("the root before", State.page(tree, 18), "18 inner 0:7 120:17");
        Check.dueText("its first child", State.page(tree, 7), "7 inner 0:2 80:10");
        Check.dueText("its other child", State.page(tree, 17), "17 inner 0:13 160:16");
        Check.dueText("the page below", State.page(tree, 2), "2 inner 0:0 60:4");
        Check.dueText("the leaf", State.page(tree, 0), "0 leaf 40=45 50=55 then 4");
        Trees.cool(tree);
        Trees.take(tree, 40);
        Check.due("the root", tree.told(1), 7);
        Check.due("levels", tree.told(2), 3);
        Check.dueText("the new root", State.page(tree, 7), "7 inner 0:2 120:13 160:16");
        Check.dueText("the page below it", State.page(tree, 2), "2 inner 0:0 80:5 100:8");
        Check.dueText("the leaf", State.page(tree, 0), "0 leaf 50=55 60=65 70=75 then 5");
        for (int page : new int[] {4, 10, 17, 18}) {
            dueFree(tree, page);
        }
        Check.dueText("what is left in frames", State.frames(tree), "1: 7 used dirty\n2: 2 used dirty\n3: 0 used dirty\n");
        Check.due("astray", tree.astray(), 0);
    }
}
