import java.util.NoSuchElementException;

/** Promise 4, and how pages give and join. */
final class RemoveTest {
    public static void main(String[] args) {
        absent();
        leftLeafGives();
        leftLeafGivesFirst();
        rightLeafGives();
        leafJoinsLeft();
        leafJoinsRight();
        middleLeafJoinsLeft();
        innerPages();
        marksStay();
        Check.end();
    }

    private static void absent() {
        PagedTree tree = Trees.cold(0, 10);
        tree.seek(4);
        tree.flush();
        tree.drop();
        Check.due("remove of a key that is not there", tree.remove(11), false);
        Check.dueText("frames", State.frames(tree), "0: 7 used\n1: 6 used\n2: 5 used\n");
        tree.seek(4);
        Check.due("once more", tree.remove(11), false);
        Check.throwsAnd(tree, "the cursor after remove", NoSuchElementException.class, () -> tree.cursor(true));
        PagedTree fresh = new PagedTree();
        Check.due("remove of a new object", fresh.remove(0), false);
        Check.due("what it read", fresh.told(5), 1);
    }

    private static void leftLeafGives() {
        PagedTree tree = Trees.rising(1, 5);
        tree.put(0, 0);
        tree.remove(3);
        tree.flush();
        tree.drop();
        Check.due("remove", tree.remove(4), true);
        Trees.duePages("left gives", tree, "0 leaf 0=0 1=10 then 1", "1 leaf 2=20 5=50", "2 inner 0:0 2:1");
        Check.dueText("left gives", State.frames(tree), "0: 2 used dirty\n1: 1 used dirty\n2: 0 used dirty\n");
        Check.due("keys", tree.told(0), 4);
    }

    private static void leftLeafGivesFirst() {
        PagedTree tree = Trees.rising(1, 7);
        tree.put(0, 0);
        tree.flush();
        tree.drop();
        // Both neighbours of leaf 1 have three; the left one gives, the right one is not even touched.
        tree.remove(3);
        Trees.duePages("left gives before right", tree, "0 leaf 0=0 1=10 then 1", "1 leaf 2=20 4=40 then 3",
            "3 leaf 5=50 6=60 7=70", "2 inner 0:0 2:1 5:3");
        Check.dueText("left gives before right", State.frames(tree), "0: 2 used dirty\n1: 1 used dirty\n2: 0 used dirty\n");
    }

    private static void rightLeafGives() {
        PagedTree tree = Trees.cold(1, 5);
        Check.due("remove", tree.remove(1), true);
        Trees.duePages("right gives", tree, "0 leaf 2=20 3=30 then 1", "1 leaf 4=40 5=50", "2 inner 0:0 4:1");
        Check.dueText("right gives", State.frames(tree), "0: 2 used dirty\n1: 0 used dirty\n2: 1 used dirty\n");
    }

    private static void leafJoinsLeft() {
        PagedTree tree = Trees.rising(1, 5);
        tree.remove(3);
        tree.flush();
        int written = tree.told(6);
        tree.remove(4);
        Trees.duePages("joins left", tree, "0 leaf 1=10 2=20 5=50");
        Check.due("root", tree.told(1), 0);
        Check.due("levels", tree.told(2), 1);
        // Pages 1 and 2 are free: they have no frame and were not written.
        Check.dueText("joins left", State.frames(tree), "0: 0 used dirty\n");
        Check.due("written", tree.told(6), written);
        Check.due("flush", tree.flush(), 1);
        for (int key : new int[] {1, 2, 5}) {
            Check.due("remove " + key, tree.remove(key), true);
        }
        Trees.duePages("none left", tree, "0 leaf");
    }

    private static void leafJoinsRight() {
        PagedTree tree = Trees.rising(1, 7);
        tree.remove(7);
        tree.flush();
        tree.remove(1);
        Trees.duePages("joins right", tree, "0 leaf 2=20 3=30 4=40 then 3", "3 leaf 5=50 6=60", "2 inner 0:0 5:3");
        // The new entries split leaf 0 again: the least free page is 1.
        tree.put(1, 1);
        tree.put(0, 0);
        Trees.duePages("page 1 again", tree, "0 leaf 0=0 1=1 then 1", "1 leaf 2=20 3=30 4=40 then 3", "3 leaf 5=50 6=60",
            "2 inner 0:0 2:1 5:3");
    }

    private static void middleLeafJoinsLeft() {
        PagedTree tree = Trees.rising(0, 6);
        tree.remove(6);
        tree.flush();
        tree.drop();
        tree.remove(3);
        Trees.duePages("middle joins left", tree, "0 leaf 0=0 1=10 2=20 then 3", "3 leaf 4=40 5=50", "2 inner 0:0 4:3");
        // The right one was touched, for it could have given, but it did not change.
        Check.dueText("middle joins left", State.frames(tree), "0: 2 used dirty\n2: 0 used dirty\n3: 3 used\n");
    }

    private static void innerPages() {
        PagedTree tree = Trees.rising(0, 10);
        tree.remove(0);
        Trees.duePages("right inner page gives", tree, "0 leaf 1=10 2=20 3=30 then 3", "3 leaf 4=40 5=50 then 4",
            "4 leaf 6=60 7=70 then 5", "5 leaf 8=80 9=90 10=100", "2 inner 0:0 4:3", "6 inner 0:4 8:5", "7 inner 0:2 6:6");
        tree.put(0, 0);
        tree.put(-1, 0);
        tree.remove(10);
        tree.remove(9);
        Trees.duePages("left inner page gives", tree, "0 leaf -1=0 0=0 then 1", "1 leaf 1=10 2=20 3=30 then 3",
            "3 leaf 4=40 5=50 then 4", "4 leaf 6=60 7=70 8=80", "2 inner 0:0 1:1", "6 inner 0:3 6:4", "7 inner 0:2 4:6");
        tree.remove(3);
        tree.remove(2);
        Trees.duePages("inner pages join", tree, "0 leaf -1=0 0=0 1=10 then 3", "3 leaf 4=40 5=50 then 4",
            "4 leaf 6=60 7=70 8=80", "2 inner 0:0 4:3 6:4");
        Check.due("root", tree.told(1), 2);
        Check.due("levels", tree.told(2), 2);
    }

    private static void marksStay() {
        PagedTree tree = Trees.rising(1, 5);
        tree.remove(3);
        Trees.duePages("the mark is no key any more", tree, "0 leaf 1=10 2=20 then 1", "1 leaf 4=40 5=50", "2 inner 0:0 3:1");
        tree.put(3, 3);
        Trees.duePages("the mark is a key again", tree, "0 leaf 1=10 2=20 then 1", "1 leaf 3=3 4=40 5=50", "2 inner 0:0 3:1");
    }
}
