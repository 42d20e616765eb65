/** Each sentence of "Terms" on frames, touching and the hand that names a boundary, with a test of its own. */
final class FrameEdgesTest {
    public static void main(String[] args) {
        firstAndLastFrame();
        pinEndsWithTheCall();
        pinEndsWithEachKindOfCall();
        hit();
        otherPageComes();
        readUnlessFree();
        freedPageComesAgain();
        emptyFrameAtTheHand();
        emptyFrameAwayFromTheHand();
        pinnedFrameAtTheHand();
        usedFrameAtTheHand();
        cleanPageLeaves();
        dirtyPageLeaves();
        handGoesRound();
        handIsBehindTheFrame();
        touchedOnce();
        changedPageIsDirty();
        freePageHasNoFrame();
        freedFrameIsTakenInTheSameCall();
        Check.end();
    }

    /**
     * Keys up to 210, and every frame with a page, all used and clean, the hand at 0:
     * 7, 10, 5, 8, 13, 9, 11, 12, 14, 2, 0, 1. Pages 3, 4 and 6 are in none.
     */
    private static PagedTree fullFrames() {
        PagedTree tree = Trees.coldTens(21);
        for (int key : new int[] {80, 100, 120, 140, 160, 180, 0, 20}) {
            tree.get(key);
        }
        Check.dueText("full frames", State.frames(tree), "0: 7 used\n1: 10 used\n2: 5 used\n3: 8 used\n4: 13 used\n5: 9 used\n"
            + "6: 11 used\n7: 12 used\n8: 14 used\n9: 2 used\n10: 0 used\n11: 1 used\n");
        Check.due("the hand", tree.told(7), 0);
        return tree;
    }

    private static void firstAndLastFrame() {
        Check.sentence("FRAMES are 0 .. 11");
        PagedTree tree = fullFrames();
        Check.due("the page in frame 0", tree.frame(0, 0), 7);
        Check.due("the page in frame 11", tree.frame(11, 0), 1);
        Check.throwsAnd(tree, "frame -1", IndexOutOfBoundsException.class, () -> tree.frame(-1, 0));
        Check.throwsAnd(tree, "frame 12", IndexOutOfBoundsException.class, () -> tree.frame(12, 0));
    }

    private static void pinEndsWithTheCall() {
        Check.sentence("perhaps PINNED (until the call ends)");
        PagedTree tree = Trees.coldTens(24);
        tree.seek(0);
        for (int key = 10; key <= 170; key += 10) {
            tree.next();
        }
        Check.due("the hand", tree.told(7), 0);
        // The root was pinned by seek alone; leaf 12, which this call touches, is in frame 11.
        tree.next();
        Check.dueText("the root left", State.frames(tree), "0: 14 used\n1: 7\n2: 2\n3: 0\n4: 1\n5: 3\n6: 4\n7: 5\n8: 8\n9: 9\n10: 11\n"
            + "11: 12 used\n");
        Check.due("the hand", tree.told(7), 1);
    }

    /** Each of these calls pins 10 and 5 in frames 1 and 2, which give way in the call after it all the same. */
    private static void pinEndsWithEachKindOfCall() {
        Check.sentence("perhaps PINNED (until the call ends)");
        dueGivesWay("put", call -> call.put(80, 0));
        dueGivesWay("get", call -> call.get(80));
        dueGivesWay("remove of none", call -> call.remove(85));
        dueGivesWay("seek", call -> call.seek(80));
        PagedTree tree = fullFrames();
        tree.seek(80);
        tree.get(160);
        tree.next();
        tree.get(40);
        Check.due("page in frame 2 after next", tree.frame(2, 0), 3);
    }

    private static void dueGivesWay(String what, Call call) {
        PagedTree tree = fullFrames();
        call.on(tree);
        tree.get(40);
        Check.due("page in frame 1 after " + what, tree.frame(1, 0), 6);
        Check.due("page in frame 2 after " + what, tree.frame(2, 0), 3);
    }

    private static void hit() {
        Check.sentence("A page is TOUCHED: if it is in a frame (a HIT), that is used and pinned");
        PagedTree tree = fullFrames();
        tree.put(160, 1);
        tree.get(40);
        Check.due("13 is used no more", tree.frame(4, 1), 0);
        Check.due("12 is used no more", tree.frame(7, 1), 0);
        Check.due("12 is dirty", tree.frame(7, 2), 1);
        int hits = tree.told(4);
        int read = tree.told(5);
        int hand = tree.told(7);
        tree.get(160);
        Check.due("13 is used again", tree.frame(4, 1), 1);
        Check.due("12 is used again", tree.frame(7, 1), 1);
        Check.due("12 is dirty still", tree.frame(7, 2), 1);
        Check.due("hits", tree.told(4) - hits, 3);
        Check.due("read", tree.told(5) - read, 0);
        Check.due("the hand", tree.told(7), hand);
    }

    private static void otherPageComes() {
        Check.sentence("else a frame is looked for, and has it, not dirty, used and pinned; it was READ");
        PagedTree tree = Trees.coldTens(4);
        int hits = tree.told(4);
        int read = tree.told(5);
        tree.get(0);
        Check.dueText("both pages of the way", State.frames(tree), "0: 2 used\n1: 0 used\n");
        Check.due("hits", tree.told(4) - hits, 0);
        Check.due("read", tree.told(5) - read, 2);
    }

    private static void readUnlessFree() {
        Check.sentence("it was READ, unless it was free before");
        PagedTree tree = new PagedTree();
        Trees.add(tree, 0);
        Check.due("page 0 was not free before", tree.told(5), 1);
        Trees.add(tree, 10, 20, 30);
        int hits = tree.told(4);
        Trees.add(tree, 40);
        Check.due("pages 1 and 2 were free before", tree.told(5), 1);
        Check.due("and were no hits", tree.told(4) - hits, 1);
        Check.dueText("but have frames", State.frames(tree), "0: 0 used dirty\n1: 1 used dirty\n2: 2 used dirty\n");
    }

    private static void freedPageComesAgain() {
        Check.sentence("it was READ, unless it was free before");
        PagedTree tree = Trees.tens(4);
        Trees.take(tree, 40, 0);
        int read = tree.told(5);
        Trees.add(tree, 0, 5);
        Check.due("pages", tree.told(3), 3);
        Check.due("pages 1 and 2 were leaf and root once, and free then", tree.told(5), read);
        Trees.cool(tree);
        tree.get(5);
        Check.due("they are read when they are not free", tree.told(5), read + 2);
    }

    private static void emptyFrameAtTheHand() {
        Check.sentence("Looking: the frame at the HAND (at first 0), if it is empty");
        PagedTree tree = new PagedTree();
        Check.due("the hand at first", tree.told(7), 0);
        tree.seek(0);
        Check.dueText("the first page", State.frames(tree), "0: 0 used\n");
        Check.due("the hand", tree.told(7), 1);
        PagedTree three = Trees.coldTens(10);
        three.get(0);
        Check.dueText("a way", State.frames(three), "0: 7 used\n1: 2 used\n2: 0 used\n");
        Check.due("the hand", three.told(7), 3);
        // Used frames stay used when the frame at the hand is empty.
        three.get(20);
        Check.dueText("one more", State.frames(three), "0: 7 used\n1: 2 used\n2: 0 used\n3: 1 used\n");
    }

    private static void emptyFrameAwayFromTheHand() {
        Check.sentence("Looking: the frame at the HAND (at first 0), if it is empty");
        PagedTree tree = fullFrames();
        tree.remove(140);
        Check.due("leaf 11 is free, and frame 6 empty", tree.frame(6, 0), PagedTree.NONE);
        Check.due("the hand", tree.told(7), 0);
        // 6 comes where the hand gets to the empty frame; 3 comes a round later, for page 10.
        tree.get(40);
        Check.dueText("the hand went there", State.frames(tree), "0: 7 used\n1: 3 used\n2: 5\n3: 8\n4: 13 dirty\n5: 9 dirty\n6: 6 used\n"
            + "7: 12\n8: 14\n9: 2\n10: 0\n11: 1\n");
        Check.due("the hand", tree.told(7), 2);
    }

    private static void pinnedFrameAtTheHand() {
        Check.sentence("if it is pinned, the hand goes on by one, round");
        PagedTree tree = fullFrames();
        tree.get(40);
        // Frame 0 with the root is pinned each time the hand comes there, so it is used still.
        Check.dueText("after two looks", State.frames(tree), "0: 7 used\n1: 6 used\n2: 3 used\n3: 8\n4: 13\n5: 9\n6: 11\n7: 12\n8: 14\n"
            + "9: 2\n10: 0\n11: 1\n");
        Check.due("the hand", tree.told(7), 3);
    }

    private static void usedFrameAtTheHand() {
        Check.sentence("if it is used, it is used no more, and the hand goes on");
        PagedTree tree = fullFrames();
        tree.get(40);
        tree.get(100);
        // 10 takes frame 3 from 8; 8 is touched next, and takes frame 4 from 13.
        Check.dueText("no use was left to take", State.frames(tree), "0: 7 used\n1: 6 used\n2: 3 used\n3: 10 used\n4: 8 used\n5: 9\n6: 11\n"
            + "7: 12\n8: 14\n9: 2\n10: 0\n11: 1\n");
        tree.get(180);
        // 13 takes frame 5; 14 is in frame 8 and stays there.
        Check.dueText("a used frame away from the hand", State.frames(tree), "0: 7 used\n1: 6 used\n2: 3 used\n3: 10 used\n4: 8 used\n"
            + "5: 13 used\n6: 11\n7: 12\n8: 14 used\n9: 2\n10: 0\n11: 1\n");
        tree.get(120);
        tree.get(160);
        Check.due("9 takes frame 6", tree.frame(6, 0), 9);
        Check.due("the hand", tree.told(7), 7);
        tree.get(140);
        // Frame 7 with 12 was used by get(160), and 8 with 14 by get(180): 11 takes frame 9.
        Check.dueText("two used frames at the hand", State.frames(tree), "0: 7 used\n1: 6 used\n2: 3 used\n3: 10 used\n4: 8 used\n"
            + "5: 13 used\n6: 9 used\n7: 12\n8: 14\n9: 11 used\n10: 0\n11: 1\n");
        Check.due("the hand", tree.told(7), 10);
    }

    private static void cleanPageLeaves() {
        Check.sentence("else its page leaves, WRITTEN if dirty");
        PagedTree tree = fullFrames();
        int written = tree.told(6);
        tree.get(40);
        Check.due("10 and 5 left", tree.frame(1, 0) + tree.frame(2, 0), 6 + 3);
        Check.due("written", tree.told(6), written);
    }

    private static void dirtyPageLeaves() {
        Check.sentence("else its page leaves, WRITTEN if dirty");
        PagedTree tree = fullFrames();
        tree.put(80, 7);
        int written = tree.told(6);
        tree.get(40);
        Check.due("leaf 5 left, and leaf 3 has its frame", tree.frame(2, 0), 3);
        Check.due("which is not dirty", tree.frame(2, 2), 0);
        Check.due("written", tree.told(6), written + 1);
        Check.due("flush writes none again", tree.flush(), 0);
        Check.due("the value that was written", tree.get(80), 7);
        Check.due("astray", tree.astray(), 0);
    }

    private static void handGoesRound() {
        Check.sentence("the hand goes on by one, round");
        PagedTree tree = Trees.coldTens(21);
        for (int key : new int[] {80, 100, 120, 140, 160, 180, 0}) {
            tree.get(key);
        }
        Check.due("the hand with one frame empty", tree.told(7), 11);
        tree.get(20);
        Check.due("the hand behind the last frame", tree.told(7), 0);
        tree.get(40);
        Check.due("the hand after more than a round", tree.told(7), 3);
    }

    private static void handIsBehindTheFrame() {
        Check.sentence("The hand then is behind the frame.");
        PagedTree tree = fullFrames();
        tree.get(40);
        for (int key : new int[] {60, 80}) {
            tree.get(key);
        }
        // 4 takes frame 3, 10 frame 4 and 5 frame 5.
        Check.dueText("three looks", State.frames(tree), "0: 7 used\n1: 6 used\n2: 3 used\n3: 4 used\n4: 10 used\n5: 5 used\n6: 11\n7: 12\n"
            + "8: 14\n9: 2\n10: 0\n11: 1\n");
        Check.due("the hand behind frame 5", tree.told(7), 6);
        tree.get(160);
        // 13 takes frame 6, 12 is a hit.
        Check.due("the hand behind frame 6", tree.told(7), 7);
    }

    private static void touchedOnce() {
        Check.sentence("Each page is touched at most once in a call.");
        dueTouches("get", call -> call.get(0), 3);
        dueTouches("get of another leaf", call -> call.get(180), 3);
        dueTouches("put of a known key", call -> call.put(180, 0), 3);
        dueTouches("put that splits up to the root", call -> call.put(220, 0), 3);
        dueTouches("remove of a leaf that stays", call -> call.remove(180), 3);
        dueTouches("remove of none", call -> call.remove(5), 3);
        dueTouches("remove that joins twice", call -> call.remove(0), 5);
        dueTouches("remove that joins in the middle", call -> call.remove(40), 6);
        dueTouches("remove where the last inner page gives", call -> call.remove(80), 6);
        dueTouches("remove with both leaves beside it", call -> call.remove(140), 5);
        dueTouches("seek in a leaf", call -> call.seek(30), 3);
        dueTouches("seek in the next leaf", call -> call.seek(35), 4);
        dueTouches("seek behind all", call -> call.seek(211), 3);
    }

    /** A call on an object. */
    private interface Call {
        void on(PagedTree tree);
    }

    /** All pages that a call touches are read when no frame has one, but for those that were free. */
    private static void dueTouches(String what, Call call, int touches) {
        PagedTree tree = Trees.coldTens(21);
        int hits = tree.told(4);
        int read = tree.told(5);
        call.on(tree);
        Check.due(what + ": read", tree.told(5) - read, touches);
        Check.due(what + ": hits", tree.told(4) - hits, 0);
    }

    private static void changedPageIsDirty() {
        Check.sentence("A page that changes is dirty.");
        PagedTree tree = Trees.coldTens(21);
        Trees.add(tree, 220);
        Check.dueText("all that split, all new pages, both roots", State.frames(tree), "0: 7 used dirty\n1: 13 used dirty\n2: 14 used dirty\n"
            + "3: 15 used dirty\n4: 16 used dirty\n5: 17 used dirty\n6: 18 used dirty\n");
        Trees.cool(tree);
        tree.get(0);
        tree.seek(15);
        tree.next();
        tree.remove(15);
        Check.due("pages that are looked at do not change", tree.flush(), 0);
    }

    private static void freePageHasNoFrame() {
        Check.sentence("A page that is free has no frame.");
        PagedTree tree = Trees.tens(4);
        Trees.take(tree, 40);
        int written = tree.told(6);
        Trees.take(tree, 0);
        Check.dueText("leaf 1 and root 2 had frames 1 and 2", State.frames(tree), "0: 0 used dirty\n");
        Check.due("they were not written", tree.told(6), written);
        Check.due("the hand stays", tree.told(7), 3);
        Check.due("flush", tree.flush(), 1);
        Check.due("written", tree.told(6), written + 1);
        Check.due("drop", tree.drop(), 1);
    }

    private static void freedFrameIsTakenInTheSameCall() {
        Check.sentence("A page that is free has no frame.");
        PagedTree tree = Trees.tens(21);
        Trees.add(tree, 41, 42, 43);
        Trees.cool(tree);
        for (int key : new int[] {20, 0, 80, 100, 120, 140, 160, 180}) {
            tree.get(key);
        }
        Check.due("leaf 1", tree.frame(2, 0), 1);
        Check.due("the hand", tree.told(7), 0);
        // Leaf 1 joins leaf 0 and is free; page 6 is touched then: behind the pinned 7 and 2 frame 2 is empty.
        tree.remove(20);
        Check.dueText("page 6 has the frame of leaf 1", State.frames(tree), "0: 7 used dirty\n1: 2 used dirty\n2: 6 used dirty\n"
            + "3: 0 used dirty\n4: 10 used\n5: 5 used\n6: 8 used\n7: 13 used\n8: 9 used\n9: 11 used\n10: 12 used\n11: 14 used\n");
        Check.due("the hand", tree.told(7), 3);
        Check.dueText("what page 2 has", State.page(tree, 2), "2 inner 0:0 40:3");
        Check.dueText("what page 6 has", State.page(tree, 6), "6 inner 0:15 60:4");
        Check.dueText("what the root has", State.page(tree, 7), "7 inner 0:2 42:6 80:10 120:13");
    }
}
