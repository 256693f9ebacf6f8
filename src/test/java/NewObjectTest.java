import java.util.NoSuchElementException;

/** Promise 1: a new object. */
public final class NewObjectTest {
    public static void main(String[] args) {
        thereIsNoVersion();
        theTapeIsEmpty();
        noneIsCurrent();
        objectsShareNothing();
        Check.finish();
    }

    /** "No VERSION". */
    private static void thereIsNoVersion() {
        MomentTree tree = new MomentTree();
        Check.due("count", tree.count(), 0);
        Check.due("clear", tree.clear(), 0);
        Check.dueThrow("first", NoSuchElementException.class, tree::first);
        Check.dueThrow("seek", NoSuchElementException.class, () -> tree.seek(0, false));
        Check.dueThrow("find", NoSuchElementException.class, () -> Check.find(tree, "a", 0));
        Check.due("the first put", Check.put(tree, "a", 0, 0, 0), 1);
    }

    /** "the TAPE is empty". */
    private static void theTapeIsEmpty() {
        Check.dueTape("new", new MomentTree(), 0);
        Check.due("feed", new MomentTree().feed(1, 2, 3, 4, 5), 20);
        Check.dueThrow("put", IllegalArgumentException.class, () -> new MomentTree().put(0, 0, 0));
    }

    /** Of "Terms": "(none at first)". */
    private static void noneIsCurrent() {
        MomentTree tree = new MomentTree();
        Check.dueNoneCurrent("new", tree);
        Check.dueThrow("next", NoSuchElementException.class, tree::next);
    }

    private static void objectsShareNothing() {
        MomentTree used = new MomentTree();
        Check.put(used, "a", 1, 1, 1);
        used.first();
        Check.write(used, "bb");
        MomentTree tree = new MomentTree();
        Check.due("count", tree.count(), 0);
        Check.dueTape("beside a used one", tree, 0);
        Check.dueNoneCurrent("beside a used one", tree);
        Check.put(tree, "c", 2, 2, 2);
        tree.clear();
        Check.due("the used one stays", Told.versionsOf(used), "1; 1 1 1 1 6100000000000000.");
    }
}
