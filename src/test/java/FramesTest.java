/** Promises 8, 9 and 12, and how the hand finds a frame. */
final class FramesTest {
    public static void main(String[] args) {
        flushAndDrop();
        dropThrows();
        wrongInputs();
        handGoesRound();
        dirtyPageLeaves();
        emptyFrameWaitsForTheHand();
        Check.end();
    }

    private static void flushAndDrop() {
        PagedTree tree = new PagedTree();
        Check.due("flush of none", tree.flush(), 0);
        Check.due("drop of none", tree.drop(), 0);
        tree.seek(0);
        Check.due("flush of a clean frame", tree.flush(), 0);
        Check.due("drop of a clean frame", tree.drop(), 1);
        Check.due("the hand", tree.told(7), 0);
        for (int key = 1; key <= 5; key++) {
            tree.put(key, key);
        }
        Check.due("flush of three", tree.flush(), 3);
        Check.due("written", tree.told(6), 3);
        Check.dueText("frames", State.frames(tree), "0: 0 used\n1: 1 used\n2: 2 used\n");
        Check.due("flush again", tree.flush(), 0);
        Check.due("written", tree.told(6), 3);
        Check.due("the hand", tree.told(7), 3);
        Check.due("drop of three", tree.drop(), 3);
        Check.dueText("no frames", State.frames(tree), "");
        Check.due("the hand", tree.told(7), 0);
        Check.due("read before", tree.told(5), 2);
        Check.due("get", tree.get(4), 4);
        Check.due("read", tree.told(5), 4);
    }

    private static void dropThrows() {
        PagedTree tree = Trees.rising(1, 5);
        tree.flush();
        tree.put(1, 1);
        tree.seek(2);
        Check.throwsAnd(tree, "drop with a dirty frame", IllegalStateException.class, () -> tree.drop());
        Check.due("the cursor", tree.cursor(false), 2);
        tree.flush();
        Check.due("drop", tree.drop(), 3);
    }

    private static void wrongInputs() {
        PagedTree tree = Trees.rising(1, 5);
        for (int frame : new int[] {-1, 12, Integer.MIN_VALUE, Integer.MAX_VALUE}) {
            for (int what : new int[] {-1, 0, 1, 2, 3}) {
                Check.throwsAnd(tree, "frame(" + frame + ", " + what + ")", IndexOutOfBoundsException.class,
                    () -> tree.frame(frame, what));
            }
        }
        for (int what : new int[] {-1, 3, Integer.MIN_VALUE, Integer.MAX_VALUE}) {
            for (int frame : new int[] {0, 11}) {
                Check.throwsAnd(tree, "frame(" + frame + ", " + what + ")", IllegalArgumentException.class,
                    () -> tree.frame(frame, what));
            }
        }
    }

    private static void handGoesRound() {
        // Root 18 has 7 and 17; 7 has 2 and 6; 17 has 10, 13 and 16; below them are the leaves.
        PagedTree tree = Trees.cold(0, 24);
        for (int key = 0; key <= 10; key += 2) {
            tree.get(key);
        }
        Check.dueText("all frames", State.frames(tree), "0: 18 used\n1: 7 used\n2: 2 used\n3: 0 used\n4: 1 used\n5: 6 used\n"
            + "6: 3 used\n7: 4 used\n8: 17 used\n9: 10 used\n10: 5 used\n11: 8 used\n");
        Check.due("the hand", tree.told(7), 0);
        // 18 and 17 are pinned; the hand takes all other use away before 13 and leaf 9 come.
        tree.get(12);
        Check.dueText("after a round", State.frames(tree), "0: 18 used\n1: 13 used\n2: 9 used\n3: 0\n4: 1\n5: 6\n"
            + "6: 3\n7: 4\n8: 17 used\n9: 10\n10: 5\n11: 8\n");
        Check.due("the hand", tree.told(7), 3);
        // 7 left, so it is read again and takes the frame of leaf 0, and 2 that of leaf 1; so 0 is read too.
        Check.due("get(0)", tree.get(0), 0);
        Check.dueText("on the way again", State.frames(tree), "0: 18 used\n1: 13 used\n2: 9 used\n3: 7 used\n4: 2 used\n"
            + "5: 0 used\n6: 3\n7: 4\n8: 17 used\n9: 10\n10: 5\n11: 8\n");
        Check.due("nothing was written", tree.told(6), 20);
        Check.due("flush", tree.flush(), 0);
        Check.due("drop", tree.drop(), 12);
    }

    private static void dirtyPageLeaves() {
        PagedTree tree = Trees.cold(0, 24);
        tree.put(0, 7);
        for (int key = 2; key <= 12; key += 2) {
            tree.get(key);
        }
        Check.due("leaf 0 is in a frame", tree.frame(3, 0), 0);
        Check.due("dirty", tree.frame(3, 2), 1);
        Check.due("used no more", tree.frame(3, 1), 0);
        int written = tree.told(6);
        tree.get(14);
        Check.due("leaf 11 has its frame", tree.frame(3, 0), 11);
        Check.due("used", tree.frame(3, 1), 1);
        Check.due("not dirty", tree.frame(3, 2), 0);
        Check.due("leaf 0 was written", tree.told(6), written + 1);
        Check.due("its value", tree.get(0), 7);
        Check.due("flush", tree.flush(), 0);
    }

    private static void emptyFrameWaitsForTheHand() {
        PagedTree tree = Trees.rising(1, 5);
        tree.remove(3);
        tree.remove(4);
        Check.dueText("pages 1 and 2 are free", State.frames(tree), "0: 0 used dirty\n");
        Check.due("the hand", tree.told(7), 3);
        tree.put(3, 3);
        tree.put(4, 4);
        Check.dueText("pages 1 and 2 again", State.frames(tree), "0: 0 used dirty\n3: 1 used dirty\n4: 2 used dirty\n");
        Check.due("the hand", tree.told(7), 5);
    }
}
