import java.util.ArrayList;
import java.util.List;
import java.util.NoSuchElementException;
import java.util.TreeMap;

/**
 * The document's words once more, as plainly as can be: pages as objects with lists, a parent found
 * by looking at all pages, and the hand going one frame at a time. Only the tests use it.
 */
final class Model {
    static final class Item {
        Integer key;
        int second;

        Item(Integer key, int second) {
            this.key = key;
            this.second = second;
        }
    }

    static final class Node {
        final boolean leaf;
        final List<Item> items = new ArrayList<>();
        int next = -1;

        Node(boolean leaf) {
            this.leaf = leaf;
        }
    }

    static final class Frame {
        int page = -1;
        boolean used;
        boolean dirty;
        boolean pinned;
    }

    final Node[] pages = new Node[40];
    Frame[] frames = new Frame[12];
    final TreeMap<Integer, Integer> map = new TreeMap<>();
    /** How often each kind of change came, so that a test can tell that it saw them all. */
    final TreeMap<String, Integer> seen = new TreeMap<>();
    int root = 0;
    int hand = 0;
    int hits = 0;
    int read = 0;
    int written = 0;
    Integer cursorKey = null;
    int cursorValue = 0;

    Model() {
        pages[0] = new Node(true);
        emptyFrames();
    }

    private void emptyFrames() {
        for (int i = 0; i < 12; i++) {
            frames[i] = new Frame();
        }
    }

    private void saw(String what) {
        seen.merge(what, 1, Integer::sum);
    }

    // -------------------------------------------------------------- frames

    private Frame frameOf(int page) {
        for (Frame frame : frames) {
            if (frame.page == page) {
                return frame;
            }
        }
        return null;
    }

    private void touch(int page, boolean wasFree) {
        Frame frame = frameOf(page);
        if (frame != null) {
            hits++;
        } else {
            frame = look();
            frame.page = page;
            frame.dirty = false;
            if (!wasFree) {
                read++;
            }
        }
        frame.used = true;
        frame.pinned = true;
    }

    private Frame look() {
        while (true) {
            Frame frame = frames[hand];
            hand = (hand + 1) % 12;
            if (frame.page == -1) {
                return frame;
            }
            if (frame.pinned) {
                saw("hand passes a pinned frame");
            } else if (frame.used) {
                frame.used = false;
            } else {
                if (frame.dirty) {
                    written++;
                    saw("dirty page leaves");
                } else {
                    saw("clean page leaves");
                }
                return frame;
            }
        }
    }

    private void changed(int page) {
        frameOf(page).dirty = true;
    }

    private void free(int page) {
        pages[page] = null;
        for (int i = 0; i < 12; i++) {
            if (frames[i].page == page) {
                frames[i] = new Frame();
            }
        }
    }

    private void endCall() {
        for (Frame frame : frames) {
            frame.pinned = false;
        }
    }

    // -------------------------------------------------------------- the tree

    private List<Integer> way(int key) {
        List<Integer> way = new ArrayList<>();
        int page = root;
        way.add(page);
        while (!pages[page].leaf) {
            int child = pages[page].items.get(0).second;
            for (Item item : pages[page].items) {
                if (item.key != null && item.key <= key) {
                    child = item.second;
                }
            }
            page = child;
            way.add(page);
        }
        return way;
    }

    private int leafOf(int key) {
        List<Integer> way = way(key);
        return way.get(way.size() - 1);
    }

    private void touchWay(int key) {
        for (int page : way(key)) {
            touch(page, false);
        }
    }

    private int parentOf(int page) {
        for (int above = 0; above < 40; above++) {
            if (pages[above] != null && !pages[above].leaf && placeIn(above, page) >= 0) {
                return above;
            }
        }
        return -1;
    }

    private int placeIn(int parent, int child) {
        List<Item> items = pages[parent].items;
        for (int i = 0; i < items.size(); i++) {
            if (items.get(i).second == child) {
                return i;
            }
        }
        return -1;
    }

    int pagesInUse() {
        int count = 0;
        for (Node node : pages) {
            count += node != null ? 1 : 0;
        }
        return count;
    }

    private int newPage(boolean leaf) {
        for (int page = 0; page < 40; page++) {
            if (pages[page] == null) {
                pages[page] = new Node(leaf);
                touch(page, true);
                changed(page);
                return page;
            }
        }
        throw new IllegalStateException("the model ran out of pages");
    }

    private int splitsFor(int key) {
        List<Integer> way = way(key);
        int splits = 0;
        for (int i = way.size() - 1; i >= 0 && pages[way.get(i)].items.size() == 4; i--) {
            splits++;
        }
        return splits == way.size() ? splits + 1 : splits;
    }

    // -------------------------------------------------------------- the face

    boolean put(int key, int value) {
        boolean had = map.containsKey(key);
        if (!had && pagesInUse() + splitsFor(key) > 40) {
            saw("put throws");
            throw new UnsupportedOperationException();
        }
        cursorKey = null;
        touchWay(key);
        int leaf = leafOf(key);
        changed(leaf);
        map.put(key, value);
        List<Item> items = pages[leaf].items;
        items.removeIf(item -> item.key == key);
        items.add(new Item(key, value));
        items.sort((a, b) -> Integer.compare(a.key, b.key));
        int page = leaf;
        while (page != -1 && pages[page].items.size() > 4) {
            page = split(page);
        }
        endCall();
        return !had;
    }

    private int split(int page) {
        Node old = pages[page];
        saw(old.leaf ? "leaf splits" : "inner splits");
        int fresh = newPage(old.leaf);
        List<Item> gone = old.items.subList(2, 5);
        pages[fresh].items.addAll(gone);
        gone.clear();
        Integer mark = pages[fresh].items.get(0).key;
        if (old.leaf) {
            pages[fresh].next = old.next;
            old.next = fresh;
        } else {
            pages[fresh].items.get(0).key = null;
        }
        int parent = parentOf(page);
        if (parent == -1) {
            saw("root splits");
            parent = newPage(false);
            pages[parent].items.add(new Item(null, page));
            root = parent;
        }
        pages[parent].items.add(placeIn(parent, page) + 1, new Item(mark, fresh));
        changed(page);
        changed(parent);
        return parent;
    }

    int get(int key) {
        if (!map.containsKey(key)) {
            throw new NoSuchElementException();
        }
        touchWay(key);
        endCall();
        return map.get(key);
    }

    boolean remove(int key) {
        boolean had = map.containsKey(key);
        cursorKey = null;
        touchWay(key);
        if (had) {
            map.remove(key);
            int page = leafOf(key);
            pages[page].items.removeIf(item -> item.key == key);
            changed(page);
            while (page != root && pages[page].items.size() < 2) {
                int parent = parentOf(page);
                mend(parent, page);
                page = parent;
            }
            if (!pages[root].leaf && pages[root].items.size() == 1) {
                saw("root goes");
                int child = pages[root].items.get(0).second;
                free(root);
                root = child;
            }
        }
        endCall();
        return had;
    }

    private void mend(int parent, int page) {
        List<Item> children = pages[parent].items;
        int place = placeIn(parent, page);
        Item own = children.get(place);
        Item left = place > 0 ? children.get(place - 1) : null;
        Item right = place + 1 < children.size() ? children.get(place + 1) : null;
        if (left != null) {
            touch(left.second, false);
            if (pages[left.second].items.size() > 2) {
                leftGives(pages[left.second], own, pages[page]);
                changed(left.second);
                changed(page);
                changed(parent);
                return;
            }
        }
        if (right != null) {
            touch(right.second, false);
            if (pages[right.second].items.size() > 2) {
                rightGives(pages[page], right, pages[right.second]);
                changed(right.second);
                changed(page);
                changed(parent);
                return;
            }
        }
        Item into = left != null ? left : own;
        Item gone = left != null ? own : right;
        saw((pages[page].leaf ? "leaf" : "inner") + (left != null ? " joins its left one" : " joins its right one"));
        changed(into.second);
        changed(parent);
        pages[gone.second].items.get(0).key = pages[page].leaf ? pages[gone.second].items.get(0).key : gone.key;
        pages[into.second].items.addAll(pages[gone.second].items);
        pages[into.second].next = pages[gone.second].next;
        children.remove(gone);
        free(gone.second);
    }

    private void leftGives(Node left, Item rightOne, Node right) {
        saw(left.leaf ? "left leaf gives" : "left inner gives");
        Item given = left.items.remove(left.items.size() - 1);
        Integer mark = given.key;
        if (!left.leaf) {
            right.items.get(0).key = rightOne.key;
            given.key = null;
        }
        right.items.add(0, given);
        rightOne.key = mark;
    }

    private void rightGives(Node left, Item rightOne, Node right) {
        saw(left.leaf ? "right leaf gives" : "right inner gives");
        Item given = right.items.remove(0);
        if (!left.leaf) {
            given.key = rightOne.key;
        }
        left.items.add(given);
        rightOne.key = right.items.get(0).key;
        if (!left.leaf) {
            right.items.get(0).key = null;
        }
    }

    boolean seek(int key) {
        touchWay(key);
        int leaf = leafOf(key);
        boolean inLeaf = false;
        for (Item item : pages[leaf].items) {
            inLeaf |= item.key >= key;
        }
        if (!inLeaf && pages[leaf].next != -1) {
            saw("seek in the next leaf");
            touch(pages[leaf].next, false);
        }
        endCall();
        return setCursor(map.ceilingKey(key));
    }

    boolean next() {
        if (cursorKey == null) {
            throw new NoSuchElementException();
        }
        int leaf = leafOf(cursorKey);
        List<Item> items = pages[leaf].items;
        touch(leaf, false);
        if (items.get(items.size() - 1).key.equals(cursorKey) && pages[leaf].next != -1) {
            saw("next in the next leaf");
            touch(pages[leaf].next, false);
        }
        endCall();
        return setCursor(map.higherKey(cursorKey));
    }

    private boolean setCursor(Integer key) {
        cursorKey = key;
        cursorValue = key == null ? 0 : map.get(key);
        return key != null;
    }

    int flush() {
        int count = 0;
        for (Frame frame : frames) {
            count += frame.dirty ? 1 : 0;
            frame.dirty = false;
        }
        written += count;
        return count;
    }

    int drop() {
        int count = 0;
        for (Frame frame : frames) {
            if (frame.dirty) {
                throw new IllegalStateException();
            }
            count += frame.page != -1 ? 1 : 0;
        }
        emptyFrames();
        hand = 0;
        cursorKey = null;
        return count;
    }

    private int levels() {
        int page = root;
        int levels = 1;
        while (!pages[page].leaf) {
            page = pages[page].items.get(0).second;
            levels++;
        }
        return levels;
    }

    /** The same text as State.of. */
    String state() {
        StringBuilder text = new StringBuilder("told " + map.size() + " " + root + " " + levels() + " " + pagesInUse()
            + " " + hits + " " + read + " " + written + " " + hand + "\n");
        text.append(cursorKey == null ? "cursor ended\n" : "cursor " + cursorKey + "=" + cursorValue + "\n");
        for (int page = 0; page < 40; page++) {
            Node node = pages[page];
            if (node != null) {
                text.append(page).append(node.leaf ? " leaf" : " inner");
                for (Item item : node.items) {
                    text.append(' ').append(item.key == null ? 0 : item.key);
                    text.append(node.leaf ? '=' : ':').append(item.second);
                }
                text.append(node.next == -1 ? "" : " then " + node.next).append('\n');
            }
        }
        for (int i = 0; i < 12; i++) {
            if (frames[i].page != -1) {
                text.append(i).append(": ").append(frames[i].page).append(frames[i].used ? " used" : "");
                text.append(frames[i].dirty ? " dirty" : "").append('\n');
            }
        }
        return text.toString();
    }
}
