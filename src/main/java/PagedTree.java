import java.util.Arrays;
import java.util.NoSuchElementException;

/**
 * A map of ints in a tree of pages on a disk, behind a few frames: pages split and join as
 * entries come and go, the frame that gives way is found by a hand that goes round, and what
 * is read and written is counted.
 */
public final class PagedTree {
    public static final int NONE = -1;

    private static final int PAGES = 40;
    private static final int FRAMES = 12;

    /** Items (entries or children) that a page may have. */
    private static final int FULL = 4;
    /** Items that a page but the root must have; as many stay when a page splits. */
    private static final int LEAST = 2;
    /** A page has one item more than it may have for the moment before it splits. */
    private static final int ROW = FULL + 1;
    /** Six levels would need 63 pages, more than there are. */
    private static final int DEEPEST = 6;

    private static final int FREE = 0;
    private static final int LEAF = 1;
    private static final int INNER = 2;

    /** What stands for the mark of a first child, which has none. */
    private static final int NO_MARK = 0;

    /** Bounds for keys where no mark sets one: longs, for no int is above all ints. */
    private static final long LOWEST_KEY = -2147483648L;
    private static final long ABOVE_ALL_KEYS = 2147483648L;

    private final Disk disk;
    private final Frames frames;
    private final Way way;
    private final Survey survey;
    private int root;
    private int keyCount;
    /** The leaf of the cursor, or NONE when the cursor has ended. */
    private int cursorLeaf;
    private int cursorPlace;
    private int cursorKey;
    private int cursorValue;

    public PagedTree() {
        disk = new Disk();
        frames = new Frames();
        way = new Way();
        survey = new Survey();
        root = 0;
        keyCount = 0;
        cursorLeaf = NONE;
        disk.allot(root, LEAF);
    }

    // ---------------------------------------------------------------- the face

    public boolean put(int key, int value) throws UnsupportedOperationException {
        way.lead(disk, root, key);
        int leaf = way.leaf();
        int place = disk.placeOf(leaf, key);
        boolean had = disk.hasKey(leaf, place, key);
        if (!had && newPagesForEntry() > disk.countFree()) {
            throw new UnsupportedOperationException("more pages than there are");
        }
        endCursor();
        touchWay();
        frames.soil(leaf);
        if (had) {
            disk.setItem(leaf, place, key, value);
        } else {
            disk.insert(leaf, place, key, value);
            keyCount++;
            splitUpwards();
        }
        frames.unpinAll();
        return !had;
    }

    public int get(int key) throws NoSuchElementException {
        way.lead(disk, root, key);
        int leaf = way.leaf();
        int place = disk.placeOf(leaf, key);
        if (!disk.hasKey(leaf, place, key)) {
            throw new NoSuchElementException("no such key");
        }
        touchWay();
        frames.unpinAll();
        return disk.secondAt(leaf, place);
    }

    public boolean remove(int key) {
        way.lead(disk, root, key);
        int leaf = way.leaf();
        int place = disk.placeOf(leaf, key);
        boolean had = disk.hasKey(leaf, place, key);
        endCursor();
        touchWay();
        if (had) {
            disk.delete(leaf, place);
            frames.soil(leaf);
            keyCount--;
            mendUpwards();
        }
        frames.unpinAll();
        return had;
    }

    public boolean seek(int key) {
        way.lead(disk, root, key);
        touchWay();
        boolean found = moveCursor(way.leaf(), disk.placeOf(way.leaf(), key));
        frames.unpinAll();
        return found;
    }

    public boolean next() throws NoSuchElementException {
        if (cursorLeaf == NONE) {
            throw new NoSuchElementException("the cursor has ended");
        }
        frames.touch(cursorLeaf, false);
        boolean found = moveCursor(cursorLeaf, cursorPlace + 1);
        frames.unpinAll();
        return found;
    }

    public int cursor(boolean value) throws NoSuchElementException {
        if (cursorLeaf == NONE) {
            throw new NoSuchElementException("the cursor has ended");
        }
        return value ? cursorValue : cursorKey;
    }

    public int flush() {
        return frames.writeDirty();
    }

    public int drop() throws IllegalStateException {
        if (frames.countDirty() > 0) {
            throw new IllegalStateException("a frame is dirty");
        }
        endCursor();
        return frames.emptyAll();
    }

    public int page(int page, int what) throws IndexOutOfBoundsException, IllegalArgumentException {
        if (!disk.isPage(page)) {
            throw new IndexOutOfBoundsException("no such page");
        }
        switch (what) {
            case 0:
                return disk.kindOf(page);
            case 1:
                return disk.countOf(page);
            case 2:
                return disk.leafAfter(page);
            default:
                throw new IllegalArgumentException("nothing that is told of a page");
        }
    }

    public int item(int page, int i, boolean second) throws IndexOutOfBoundsException {
        if (!disk.isPage(page)) {
            throw new IndexOutOfBoundsException("no such page");
        }
        if (i < 0 || i >= disk.countOf(page)) {
            throw new IndexOutOfBoundsException("no such item");
        }
        return second ? disk.secondAt(page, i) : disk.keyAt(page, i);
    }

    public int frame(int frame, int what) throws IndexOutOfBoundsException, IllegalArgumentException {
        if (!frames.isFrame(frame)) {
            throw new IndexOutOfBoundsException("no such frame");
        }
        switch (what) {
            case 0:
                return frames.pageIn(frame);
            case 1:
                return frames.isUsed(frame) ? 1 : 0;
            case 2:
                return frames.isDirty(frame) ? 1 : 0;
            default:
                throw new IllegalArgumentException("nothing that is told of a frame");
        }
    }

    public int told(int what) {
        switch (what) {
            case 0:
                return keyCount;
            case 1:
                return root;
            case 2:
                return disk.countLevels(root);
            case 3:
                return PAGES - disk.countFree();
            case 4:
                return frames.hits();
            case 5:
                return frames.pagesRead();
            case 6:
                return frames.pagesWritten();
            case 7:
                return frames.handPlace();
            default:
                return NONE;
        }
    }

    public int astray() {
        return survey.countAstray(disk, frames, root);
    }

    // ---------------------------------------------------------------- way and cursor

    private void touchWay() {
        for (int depth = 0; depth < way.length(); depth++) {
            frames.touch(way.pageAt(depth), false);
        }
    }

    private void endCursor() {
        cursorLeaf = NONE;
    }

    /** The cursor comes to a place in a leaf, or, behind its last entry, to the next leaf. */
    private boolean moveCursor(int leaf, int place) {
        int atLeaf = leaf;
        int atPlace = place;
        if (place >= disk.countOf(leaf)) {
            atLeaf = disk.leafAfter(leaf);
            atPlace = 0;
            if (atLeaf != NONE) {
                frames.touch(atLeaf, false);
            }
        }
        if (atLeaf == NONE || atPlace >= disk.countOf(atLeaf)) {
            endCursor();
            return false;
        }
        cursorLeaf = atLeaf;
        cursorPlace = atPlace;
        cursorKey = disk.keyAt(atLeaf, atPlace);
        cursorValue = disk.secondAt(atLeaf, atPlace);
        return true;
    }

    // ---------------------------------------------------------------- splitting

    /** How many pages a new entry in the leaf of the way would take. */
    private int newPagesForEntry() {
        int needed = 0;
        for (int depth = way.length() - 1; depth >= 0; depth--) {
            if (disk.countOf(way.pageAt(depth)) < FULL) {
                return needed;
            }
            needed++;
        }
        // Even the root splits, so a new root is needed above it.
        return needed + 1;
    }

    private void splitUpwards() {
        for (int depth = way.length() - 1; depth >= 0; depth--) {
            if (disk.countOf(way.pageAt(depth)) <= FULL) {
                return;
            }
            split(depth);
        }
    }

    private void split(int depth) {
        int old = way.pageAt(depth);
        int fresh = takePage(disk.kindOf(old));
        int mark = disk.keyAt(old, LEAST);
        disk.moveItems(old, LEAST, fresh);
        if (disk.kindOf(old) == LEAF) {
            disk.setLeafAfter(fresh, disk.leafAfter(old));
            disk.setLeafAfter(old, fresh);
        } else {
            disk.setKey(fresh, 0, NO_MARK);
        }
        int parent = way.pageAt(depth - 1);
        if (depth == 0) {
            parent = takePage(INNER);
            raiseRoot(parent);
        }
        disk.insert(parent, way.slotAt(depth) + 1, mark, fresh);
        soilThree(old, fresh, parent);
    }

    /** The old root becomes the only child of a new one. */
    private void raiseRoot(int above) {
        disk.insert(above, 0, NO_MARK, root);
        root = above;
    }

    private int takePage(int kind) {
        int fresh = disk.leastFree();
        disk.allot(fresh, kind);
        frames.touch(fresh, true);
        return fresh;
    }

    // ---------------------------------------------------------------- giving and joining

    private void mendUpwards() {
        for (int depth = way.length() - 1; depth > 0; depth--) {
            if (disk.countOf(way.pageAt(depth)) >= LEAST) {
                return;
            }
            mend(depth);
        }
        lowerRoot();
    }

    /** An inner root with one child goes. */
    private void lowerRoot() {
        if (disk.kindOf(root) == INNER && disk.countOf(root) == 1) {
            int child = disk.secondAt(root, 0);
            releasePage(root);
            root = child;
        }
    }

    private void mend(int depth) {
        int shortPage = way.pageAt(depth);
        int parent = way.pageAt(depth - 1);
        int slot = way.slotAt(depth);
        int left = slot > 0 ? disk.secondAt(parent, slot - 1) : NONE;
        int right = slot + 1 < disk.countOf(parent) ? disk.secondAt(parent, slot + 1) : NONE;
        if (left != NONE) {
            frames.touch(left, false);
            if (disk.countOf(left) > LEAST) {
                giveFromLeft(parent, slot, left, shortPage);
                return;
            }
        }
        if (right != NONE) {
            frames.touch(right, false);
            if (disk.countOf(right) > LEAST) {
                giveFromRight(parent, slot + 1, shortPage, right);
                return;
            }
        }
        if (left != NONE) {
            join(parent, slot, left, shortPage);
        } else if (right != NONE) {
            join(parent, slot + 1, shortPage, right);
        }
    }

    /** The left page gives its last item; the right one is the child at slot of the parent. */
    private void giveFromLeft(int parent, int slot, int left, int right) {
        int last = disk.countOf(left) - 1;
        int key = disk.keyAt(left, last);
        int second = disk.secondAt(left, last);
        disk.delete(left, last);
        if (disk.kindOf(right) == LEAF) {
            disk.insert(right, 0, key, second);
        } else {
            disk.setKey(right, 0, disk.keyAt(parent, slot));
            disk.insert(right, 0, NO_MARK, second);
        }
        // A leaf's mark is its first key, and an inner page's that of the child that was given.
        disk.setKey(parent, slot, key);
        soilThree(left, right, parent);
    }

    /** The right page gives its first item; it is the child at slot of the parent. */
    private void giveFromRight(int parent, int slot, int left, int right) {
        int key = disk.keyAt(right, 0);
        int second = disk.secondAt(right, 0);
        boolean leaves = disk.kindOf(right) == LEAF;
        disk.delete(right, 0);
        disk.insert(left, disk.countOf(left), leaves ? key : disk.keyAt(parent, slot), second);
        disk.setKey(parent, slot, disk.keyAt(right, 0));
        if (!leaves) {
            disk.setKey(right, 0, NO_MARK);
        }
        soilThree(left, right, parent);
    }

    /** All of the right page, the child at slot of the parent, goes behind what the left one has. */
    private void join(int parent, int slot, int left, int right) {
        if (disk.kindOf(left) == LEAF) {
            disk.setLeafAfter(left, disk.leafAfter(right));
        } else {
            disk.setKey(right, 0, disk.keyAt(parent, slot));
        }
        disk.moveItems(right, 0, left);
        disk.delete(parent, slot);
        soilThree(left, right, parent);
        releasePage(right);
    }

    private void soilThree(int left, int right, int parent) {
        frames.soil(left);
        frames.soil(right);
        frames.soil(parent);
    }

    private void releasePage(int page) {
        disk.allot(page, FREE);
        frames.clearPage(page);
    }

    // ---------------------------------------------------------------- the parts

    /** The pages; an index that is out of place is answered as an empty one would be. */
    private static final class Disk {
        private final int[] kinds;
        private final int[] counts;
        private final int[] leavesAfter;
        /** Row by row: keys of entries, or marks of children. */
        private final int[] keys;
        /** Row by row: values of entries, or children. */
        private final int[] seconds;

        Disk() {
            kinds = new int[PAGES];
            counts = new int[PAGES];
            leavesAfter = new int[PAGES];
            keys = new int[PAGES * ROW];
            seconds = new int[PAGES * ROW];
            Arrays.fill(leavesAfter, NONE);
        }

        boolean isPage(int page) {
            return page >= 0 && page < PAGES;
        }

        int kindOf(int page) {
            return isPage(page) ? kinds[page] : FREE;
        }

        int countOf(int page) {
            return isPage(page) ? counts[page] : 0;
        }

        int leafAfter(int page) {
            return isPage(page) ? leavesAfter[page] : NONE;
        }

        void setLeafAfter(int page, int after) {
            if (isPage(page)) {
                leavesAfter[page] = after;
            }
        }

        int keyAt(int page, int i) {
            int cell = cellOf(page, i);
            return cell >= 0 && cell < keys.length ? keys[cell] : 0;
        }

        int secondAt(int page, int i) {
            int cell = cellOf(page, i);
            return cell >= 0 && cell < seconds.length ? seconds[cell] : 0;
        }

        void setKey(int page, int i, int key) {
            int cell = cellOf(page, i);
            if (cell >= 0 && cell < keys.length) {
                keys[cell] = key;
            }
        }

        void setItem(int page, int i, int key, int second) {
            int cell = cellOf(page, i);
            if (cell >= 0 && cell < keys.length && cell < seconds.length) {
                keys[cell] = key;
                seconds[cell] = second;
            }
        }

        private int cellOf(int page, int i) {
            boolean stands = page >= 0 && page < PAGES && i >= 0 && i < ROW;
            return stands ? page * ROW + i : NONE;
        }

        void insert(int page, int at, int key, int second) {
            int count = countOf(page);
            if (!isPage(page) || count >= ROW || at < 0 || at > count) {
                return;
            }
            for (int i = count; i > at; i--) {
                setItem(page, i, keyAt(page, i - 1), secondAt(page, i - 1));
            }
            setItem(page, at, key, second);
            counts[page] = count + 1;
        }

        void delete(int page, int at) {
            int count = countOf(page);
            if (!isPage(page) || at < 0 || at >= count) {
                return;
            }
            for (int i = at; i + 1 < count; i++) {
                setItem(page, i, keyAt(page, i + 1), secondAt(page, i + 1));
            }
            counts[page] = count - 1;
        }

        /** The items of one page, from start on, go behind those of another one. */
        void moveItems(int from, int start, int to) {
            int count = countOf(from);
            int behind = countOf(to);
            if (!isPage(from) || !isPage(to) || start < 0 || start > count || behind + count - start > ROW) {
                return;
            }
            for (int i = start; i < count; i++) {
                setItem(to, behind + i - start, keyAt(from, i), secondAt(from, i));
            }
            counts[from] = start;
            counts[to] = behind + count - start;
        }

        /** A page without items becomes a leaf, inner or free. */
        void allot(int page, int kind) {
            if (isPage(page)) {
                kinds[page] = kind;
                counts[page] = 0;
                leavesAfter[page] = NONE;
            }
        }

        int leastFree() {
            for (int page = 0; page < PAGES; page++) {
                if (kindOf(page) == FREE) {
                    return page;
                }
            }
            return NONE;
        }

        int countFree() {
            int free = 0;
            for (int page = 0; page < PAGES; page++) {
                if (kindOf(page) == FREE) {
                    free++;
                }
            }
            return free;
        }

        /** The place of the least key of a leaf that is not below this one, or behind them all. */
        int placeOf(int leaf, int key) {
            int count = countOf(leaf);
            for (int i = 0; i < count; i++) {
                if (keyAt(leaf, i) >= key) {
                    return i;
                }
            }
            return count;
        }

        boolean hasKey(int leaf, int place, int key) {
            return place < countOf(leaf) && keyAt(leaf, place) == key;
        }

        /** The place of the last child whose mark is not above the key, or of the first child. */
        int childPlaceFor(int inner, int key) {
            for (int i = countOf(inner) - 1; i > 0; i--) {
                if (keyAt(inner, i) <= key) {
                    return i;
                }
            }
            return 0;
        }

        int countLevels(int top) {
            int page = top;
            int levels = 1;
            while (levels < DEEPEST && kindOf(page) == INNER) {
                page = secondAt(page, 0);
                levels++;
            }
            return levels;
        }
    }

    /** The pages from the root to a key's leaf, each with its place among its parent's children. */
    private static final class Way {
        private final int[] pages;
        private final int[] slots;
        private int length;

        Way() {
            pages = new int[DEEPEST];
            slots = new int[DEEPEST];
            length = 0;
        }

        void lead(Disk disk, int root, int key) {
            length = 0;
            add(root, 0);
            for (int step = 1; step < DEEPEST && disk.kindOf(leaf()) == INNER; step++) {
                int slot = disk.childPlaceFor(leaf(), key);
                add(disk.secondAt(leaf(), slot), slot);
            }
        }

        private void add(int page, int slot) {
            if (length >= 0 && length < DEEPEST) {
                pages[length] = page;
                slots[length] = slot;
                length++;
            }
        }

        int length() {
            return length;
        }

        int pageAt(int depth) {
            return depth >= 0 && depth < DEEPEST ? pages[depth] : NONE;
        }

        int slotAt(int depth) {
            return depth >= 0 && depth < DEEPEST ? slots[depth] : 0;
        }

        int leaf() {
            return pageAt(length - 1);
        }
    }

    /** The frames with their hand, and the counts of what went through them. */
    private static final class Frames {
        private final int[] held;
        private final boolean[] used;
        private final boolean[] dirty;
        private final boolean[] pinned;
        private int hand;
        private int hits;
        private int pagesRead;
        private int pagesWritten;

        Frames() {
            held = new int[FRAMES];
            used = new boolean[FRAMES];
            dirty = new boolean[FRAMES];
            pinned = new boolean[FRAMES];
            Arrays.fill(held, NONE);
        }

        boolean isFrame(int frame) {
            return frame >= 0 && frame < FRAMES;
        }

        int pageIn(int frame) {
            return isFrame(frame) ? held[frame] : NONE;
        }

        boolean isUsed(int frame) {
            return isFrame(frame) && used[frame];
        }

        boolean isDirty(int frame) {
            return isFrame(frame) && dirty[frame];
        }

        int hits() {
            return hits;
        }

        int pagesRead() {
            return pagesRead;
        }

        int pagesWritten() {
            return pagesWritten;
        }

        int handPlace() {
            return hand;
        }

        int frameOf(int page) {
            for (int frame = 0; frame < FRAMES; frame++) {
                if (page != NONE && held[frame] == page) {
                    return frame;
                }
            }
            return NONE;
        }

        void touch(int page, boolean wasFree) {
            int frame = frameOf(page);
            if (frame != NONE) {
                hits++;
            } else {
                frame = vacateFrame();
                if (!wasFree) {
                    pagesRead++;
                }
            }
            if (isFrame(frame)) {
                held[frame] = page;
                used[frame] = true;
                pinned[frame] = true;
            }
        }

        /** An empty frame, found by the hand; a page may leave for it. */
        private int vacateFrame() {
            int from = hand;
            // The first round may take all use away; forty pages make four levels at most, and
            // so a call pins ten pages at most: the second round finds a frame.
            for (int step = 0; step < 2 * FRAMES; step++) {
                int frame = Math.floorMod(from + step, FRAMES);
                if (givesWay(frame)) {
                    hand = Math.floorMod(frame + 1, FRAMES);
                    clear(frame);
                    return frame;
                }
            }
            return NONE;
        }

        private boolean givesWay(int frame) {
            if (frame < 0 || frame >= FRAMES) {
                return false;
            }
            if (held[frame] == NONE) {
                return true;
            }
            if (pinned[frame]) {
                return false;
            }
            if (used[frame]) {
                used[frame] = false;
                return false;
            }
            if (dirty[frame]) {
                pagesWritten++;
            }
            return true;
        }

        private void clear(int frame) {
            if (frame >= 0 && frame < FRAMES) {
                held[frame] = NONE;
                used[frame] = false;
                dirty[frame] = false;
                pinned[frame] = false;
            }
        }

        void soil(int page) {
            int frame = frameOf(page);
            if (isFrame(frame)) {
                dirty[frame] = true;
            }
        }

        void clearPage(int page) {
            clear(frameOf(page));
        }

        void unpinAll() {
            for (int frame = 0; frame < FRAMES; frame++) {
                pinned[frame] = false;
            }
        }

        int countDirty() {
            int count = 0;
            for (int frame = 0; frame < FRAMES; frame++) {
                if (dirty[frame]) {
                    count++;
                }
            }
            return count;
        }

        int writeDirty() {
            int count = countDirty();
            for (int frame = 0; frame < FRAMES; frame++) {
                dirty[frame] = false;
            }
            pagesWritten += count;
            return count;
        }

        int emptyAll() {
            int count = 0;
            for (int frame = 0; frame < FRAMES; frame++) {
                if (held[frame] != NONE) {
                    count++;
                }
                clear(frame);
            }
            hand = 0;
            return count;
        }

        int countHolding(int page) {
            int count = 0;
            for (int frame = 0; frame < FRAMES; frame++) {
                if (held[frame] == page) {
                    count++;
                }
            }
            return count;
        }
    }

    /** Goes through all pages from the root, level by level, and looks which are not as they must be. */
    private static final class Survey {
        private final int[] queue;
        private int queued;
        /** How often a page was told as the root or a child. */
        private final int[] met;
        private final int[] levels;
        /** The keys of a page are from its low on and below its high. */
        private final long[] lows;
        private final long[] highs;

        Survey() {
            queue = new int[PAGES];
            met = new int[PAGES];
            levels = new int[PAGES];
            lows = new long[PAGES];
            highs = new long[PAGES];
        }

        int countAstray(Disk disk, Frames frames, int root) {
            Arrays.fill(met, 0);
            queued = 0;
            meet(root, 1, LOWEST_KEY, ABOVE_ALL_KEYS);
            for (int i = 0; i < PAGES && i < queued; i++) {
                meetChildren(disk, queue[i]);
            }
            int astray = 0;
            for (int page = 0; page < PAGES; page++) {
                if (isAstray(disk, frames, root, page)) {
                    astray++;
                }
            }
            return astray;
        }

        private void meet(int page, int level, long low, long high) {
            if (page < 0 || page >= PAGES) {
                return;
            }
            met[page]++;
            if (met[page] == 1 && queued >= 0 && queued < PAGES) {
                queue[queued] = page;
                queued++;
                levels[page] = level;
                lows[page] = low;
                highs[page] = high;
            }
        }

        private void meetChildren(Disk disk, int page) {
            if (page < 0 || page >= PAGES || disk.kindOf(page) != INNER) {
                return;
            }
            int count = disk.countOf(page);
            for (int i = 0; i < count; i++) {
                long low = i == 0 ? lows[page] : disk.keyAt(page, i);
                long high = i + 1 < count ? disk.keyAt(page, i + 1) : highs[page];
                meet(disk.secondAt(page, i), levels[page] + 1, low, high);
            }
        }

        private boolean isAstray(Disk disk, Frames frames, int root, int page) {
            if (page < 0 || page >= PAGES) {
                return false;
            }
            if (disk.kindOf(page) == FREE) {
                return met[page] != 0 || frames.countHolding(page) != 0;
            }
            boolean atBottom = levels[page] == disk.countLevels(root);
            return met[page] != 1
                || frames.countHolding(page) > 1
                || (disk.kindOf(page) == LEAF) != atBottom
                || disk.leafAfter(page) != leafDueAfter(disk, page)
                || !countIsRight(disk, page, page == root)
                || !childrenArePages(disk, page)
                || !keysAreInPlace(disk, page);
        }

        private boolean countIsRight(Disk disk, int page, boolean isRoot) {
            int count = disk.countOf(page);
            boolean mayBeShort = isRoot && disk.kindOf(page) == LEAF;
            return count <= FULL && (count >= LEAST || mayBeShort);
        }

        private boolean childrenArePages(Disk disk, int page) {
            if (disk.kindOf(page) == INNER) {
                for (int i = 0; i < disk.countOf(page); i++) {
                    if (disk.kindOf(disk.secondAt(page, i)) == FREE) {
                        return false;
                    }
                }
            }
            return true;
        }

        private boolean keysAreInPlace(Disk disk, int page) {
            if (page < 0 || page >= PAGES) {
                return false;
            }
            int first = disk.kindOf(page) == LEAF ? 0 : 1;
            long least = lows[page];
            for (int i = first; i < disk.countOf(page); i++) {
                long key = disk.keyAt(page, i);
                if (key < least || key >= highs[page]) {
                    return false;
                }
                least = key + 1;
            }
            return true;
        }

        /** The leaf that was met right behind this one: level by level, leaves stand by rising keys. */
        private int leafDueAfter(Disk disk, int page) {
            if (disk.kindOf(page) == LEAF) {
                for (int i = 0; i + 1 < PAGES && i + 1 < queued; i++) {
                    if (queue[i] == page) {
                        return queue[i + 1];
                    }
                }
            }
            return NONE;
        }
    }
}
