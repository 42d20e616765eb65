import java.util.NoSuchElementException;

/** Promises 8 and 9: each sentence that names a boundary, with a test of its own. */
final class DiskEdgesTest {
    public static void main(String[] args) {
        flushOfNone();
        flushOfOne();
        flushOfAll();
        flushWritesOnce();
        flushLeavesTheRest();
        dropOfNone();
        dropOfOne();
        dropOfAll();
        dropPutsTheHandBack();
        dropEndsTheCursor();
        dropLeavesTheRest();
        dropWithOneDirty();
        Check.end();
    }

    // ------------------------------------------------------------ promise 8

    private static void flushOfNone() {
        Check.sentence("All frames that are dirty are written, and are so no more: how many.");
        PagedTree fresh = new PagedTree();
        Check.due("flush of empty frames", fresh.flush(), 0);
        Check.due("written", fresh.told(6), 0);
        fresh.seek(0);
        Check.due("flush of a clean frame", fresh.flush(), 0);
        Check.due("written", fresh.told(6), 0);
    }

    private static void flushOfOne() {
        Check.sentence("All frames that are dirty are written, and are so no more: how many.");
        PagedTree tree = Trees.coldTens(10);
        int written = tree.told(6);
        tree.put(0, 0);
        Check.dueText("one dirty frame of three", State.frames(tree), "0: 7 used\n1: 2 used\n2: 0 used dirty\n");
        Check.due("flush", tree.flush(), 1);
        Check.due("written", tree.told(6), written + 1);
        Check.dueText("dirty no more, but used", State.frames(tree), "0: 7 used\n1: 2 used\n2: 0 used\n");
    }

    private static void flushOfAll() {
        Check.sentence("All frames that are dirty are written, and are so no more: how many.");
        PagedTree tree = Trees.tens(21);
        int written = tree.told(6);
        Check.due("flush of twelve", tree.flush(), 12);
        Check.due("written", tree.told(6), written + 12);
        for (int frame = 0; frame <= 11; frame++) {
            Check.due("frame " + frame + " dirty", tree.frame(frame, 2), 0);
        }
    }

    private static void flushWritesOnce() {
        Check.sentence("All frames that are dirty are written, and are so no more");
        PagedTree tree = Trees.tens(4);
        Check.due("flush of three", tree.flush(), 3);
        Check.due("flush again", tree.flush(), 0);
        Check.due("written", tree.told(6), 3);
        tree.put(0, 0);
        tree.put(10, 0);
        Check.due("flush of a leaf that changed twice", tree.flush(), 1);
        Check.due("written", tree.told(6), 4);
    }

    private static void flushLeavesTheRest() {
        Check.sentence("All frames that are dirty are written");
        PagedTree tree = Trees.coldTens(4);
        tree.put(0, 5);
        tree.seek(20);
        int hits = tree.told(4);
        int read = tree.told(5);
        tree.flush();
        Check.due("hits", tree.told(4), hits);
        Check.due("read", tree.told(5), read);
        Check.due("the hand", tree.told(7), 3);
        Check.due("the cursor", tree.cursor(false), 20);
        Check.due("it goes on", tree.next(), true);
    }

    // ------------------------------------------------------------ promise 9

    private static void dropOfNone() {
        Check.sentence("All frames are empty, the hand is at 0, the cursor ends: how many had a page.");
        PagedTree tree = new PagedTree();
        Check.due("drop of empty frames", tree.drop(), 0);
        Check.due("again", tree.drop(), 0);
    }

    private static void dropOfOne() {
        Check.sentence("how many had a page");
        PagedTree tree = new PagedTree();
        tree.seek(0);
        Check.due("drop of one", tree.drop(), 1);
        Check.dueText("frames", State.frames(tree), "");
        Check.due("drop again", tree.drop(), 0);
        // Frames 0, 2 and 3 have pages 2, 0 and 3; leaf 1, which joined, had frame 1.
        PagedTree holes = Trees.tens(6);
        Trees.take(holes, 60);
        Trees.cool(holes);
        Trees.take(holes, 20);
        holes.flush();
        Check.due("drop of three with an empty one between", holes.drop(), 3);
    }

    private static void dropOfAll() {
        Check.sentence("All frames are empty");
        PagedTree tree = Trees.tens(21);
        tree.flush();
        Check.due("drop of twelve", tree.drop(), 12);
        for (int frame = 0; frame <= 11; frame++) {
            Check.due("page of frame " + frame, tree.frame(frame, 0), PagedTree.NONE);
            Check.due("frame " + frame + " used", tree.frame(frame, 1), 0);
            Check.due("frame " + frame + " dirty", tree.frame(frame, 2), 0);
        }
    }

    private static void dropPutsTheHandBack() {
        Check.sentence("the hand is at 0");
        PagedTree tree = Trees.tens(21);
        tree.flush();
        Check.due("the hand before", tree.told(7), 3);
        tree.drop();
        Check.due("the hand", tree.told(7), 0);
        tree.get(0);
        Check.dueText("the frames from 0 on", State.frames(tree), "0: 7 used\n1: 2 used\n2: 0 used\n");
    }

    private static void dropEndsTheCursor() {
        Check.sentence("the cursor ends");
        PagedTree tree = Trees.coldTens(4);
        tree.seek(20);
        tree.drop();
        Check.throwsAnd(tree, "cursor", NoSuchElementException.class, () -> tree.cursor(false));
        Check.throwsAnd(tree, "next", NoSuchElementException.class, () -> tree.next());
    }

    private static void dropLeavesTheRest() {
        Check.sentence("All frames are empty, the hand is at 0, the cursor ends");
        PagedTree tree = Trees.tens(10);
        tree.flush();
        int hits = tree.told(4);
        int read = tree.told(5);
        int written = tree.told(6);
        tree.drop();
        Check.due("keys", tree.told(0), 11);
        Check.due("root", tree.told(1), 7);
        Check.due("levels", tree.told(2), 3);
        Check.due("pages", tree.told(3), 8);
        Check.due("hits", tree.told(4), hits);
        Check.due("read", tree.told(5), read);
        Check.due("written", tree.told(6), written);
        tree.get(0);
        Check.due("read again", tree.told(5), read + 3);
    }

    private static void dropWithOneDirty() {
        Check.sentence("IllegalState: one is dirty.");
        // The dirty frame is the first, a middle one and the last of all twelve; each of them has a leaf.
        for (int dirty : new int[] {0, 5, 11}) {
            PagedTree tree = Trees.tens(21);
            tree.flush();
            tree.put(tree.item(tree.frame(dirty, 0), 0, false), 0);
            tree.seek(200);
            Check.due("frame " + dirty + " dirty", tree.frame(dirty, 2), 1);
            Check.throwsAnd(tree, "drop", IllegalStateException.class, () -> tree.drop());
            Check.due("the cursor goes on", tree.next(), true);
            Check.due("its key", tree.cursor(false), 210);
            Check.due("flush", tree.flush(), 1);
            Check.due("drop", tree.drop(), 12);
        }
        PagedTree one = Trees.of(1);
        Check.throwsAnd(one, "drop of one that is dirty", IllegalStateException.class, () -> one.drop());
    }
}
