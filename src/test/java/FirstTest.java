import java.util.NoSuchElementException;

/** Promise 8: first. */
public final class FirstTest {
    public static void main(String[] args) {
        theFirstIsCurrent();
        itIsTheFirstOfTheOrder();
        itIsTheFirstNow();
        itGoesBackFromAnywhere();
        ofNoneThereIsNone();
        Check.finish();
    }

    /** "The first VERSION is CURRENT"; "Answers its PLACE." */
    private static void theFirstIsCurrent() {
        MomentTree tree = new MomentTree();
        Check.put(tree, "b", 5, -1, 7);
        Check.put(tree, "c", 5, 2, 8);
        Check.due("its place", tree.first(), -1);
        Check.due("moment", tree.current(0), 5);
        Check.due("place", tree.current(1), -1);
        Check.due("size", tree.current(2), 7);
        Check.due("what is behind it", tree.next(), 2);
    }

    /** "The first VERSION": the least key's greatest moment, up to the ends of both. */
    private static void itIsTheFirstOfTheOrder() {
        MomentTree tree = new MomentTree();
        String[] keys = {"\u00ff", "\u0080", "a", "\0\0", "\0"};
        for (int i = 0; i < keys.length; i++) {
            Check.put(tree, keys[i], 0, i * 10, 1);
            Check.due("least key", tree.first(), i * 10);
            Check.put(tree, keys[i], Integer.MAX_VALUE, i * 10 + 1, 1);
            Check.due("greatest moment", tree.first(), i * 10 + 1);
        }
    }

    /** "The first VERSION": with what has come since. */
    private static void itIsTheFirstNow() {
        MomentTree tree = new MomentTree();
        Check.put(tree, "b", 5, 1, 1);
        tree.first();
        Check.put(tree, "b", 6, 2, 1);
        Check.due("a greater moment", tree.first(), 2);
        Check.put(tree, "a", 0, 3, 1);
        Check.due("a lower key", tree.first(), 3);
        Check.put(tree, "a", 0, 4, 1);
        Check.due("a place that was changed", tree.first(), 4);
    }

    private static void itGoesBackFromAnywhere() {
        MomentTree tree = Check.full();
        Check.due("from none", tree.first(), 0);
        Check.due("from itself", tree.first(), 0);
        tree.feed(159, 0, 0, 0, 0);
        tree.find(3);
        Check.due("from the last", tree.first(), 0);
        tree.feed(160, 0, 0, 0, 0);
        Check.dueThrow("behind all", NoSuchElementException.class, () -> tree.seek(0, false));
        Check.due("after a miss", tree.first(), 0);
        Check.due("it is current", tree.current(1), 0);
    }

    /** "there is none: NoSuchElementException". */
    private static void ofNoneThereIsNone() {
        MomentTree tree = new MomentTree();
        Check.dueThrow("new", NoSuchElementException.class, tree::first);
        Check.dueNoneCurrent("new", tree);
        Check.put(tree, "a", 1, 1, 1);
        tree.first();
        tree.clear();
        Check.dueThrow("cleared", NoSuchElementException.class, tree::first);
        Check.dueNoneCurrent("cleared", tree);
    }
}
