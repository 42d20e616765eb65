/** All that an object shows without being changed by the look, as a text. */
final class State {
    private State() {
    }

    static String of(PagedTree tree) {
        return told(tree) + cursor(tree) + pages(tree) + frames(tree);
    }

    private static String told(PagedTree tree) {
        StringBuilder text = new StringBuilder("told");
        for (int what = 0; what < 8; what++) {
            text.append(' ').append(tree.told(what));
        }
        return text.append('\n').toString();
    }

    private static String cursor(PagedTree tree) {
        try {
            return "cursor " + tree.cursor(false) + "=" + tree.cursor(true) + "\n";
        } catch (java.util.NoSuchElementException e) {
            return "cursor ended\n";
        }
    }

    private static String pages(PagedTree tree) {
        StringBuilder text = new StringBuilder();
        for (int page = 0; page < 40; page++) {
            if (tree.page(page, 0) != 0) {
                text.append(page(tree, page)).append('\n');
            }
        }
        return text.toString();
    }

    /** For example "3 leaf 5=50 7=70 then 4", or "2 inner 0:0 7:1". */
    static String page(PagedTree tree, int page) {
        int kind = tree.page(page, 0);
        StringBuilder text = new StringBuilder();
        text.append(page).append(kind == 0 ? " free" : kind == 1 ? " leaf" : " inner");
        for (int i = 0; i < tree.page(page, 1); i++) {
            text.append(' ').append(tree.item(page, i, false));
            text.append(kind == 1 ? '=' : ':').append(tree.item(page, i, true));
        }
        if (tree.page(page, 2) != PagedTree.NONE) {
            text.append(" then ").append(tree.page(page, 2));
        }
        return text.toString();
    }

    /** For example "0: 4 used dirty" for each frame that is not empty. */
    static String frames(PagedTree tree) {
        StringBuilder text = new StringBuilder();
        for (int frame = 0; frame < 12; frame++) {
            int used = tree.frame(frame, 1);
            int dirty = tree.frame(frame, 2);
            if (tree.frame(frame, 0) != PagedTree.NONE || used != 0 || dirty != 0) {
                text.append(frame).append(": ").append(tree.frame(frame, 0));
                text.append(used == 1 ? " used" : "").append(dirty == 1 ? " dirty" : "").append('\n');
            }
        }
        return text.toString();
    }
}
