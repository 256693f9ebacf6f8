import java.util.NoSuchElementException;

/** Promise 11: clear. */
public final class ClearTest {
    public static void main(String[] args) {
        MomentTree tree = new MomentTree();
        Check.due("of none", tree.clear(), 0);
        Check.put(tree, "a", 1, 1, 1);
        Check.put(tree, "b", 1, 2, 1);
        Check.put(tree, "b", 2, 3, 1);
        tree.first();
        Check.write(tree, "b");
        Check.due("how many there were", tree.clear(), 3);
        Check.dueThrow("none is current", NoSuchElementException.class, () -> tree.current(1));
        Check.dueThrow("none is next", NoSuchElementException.class, tree::next);
        Check.dueThrow("none is first", NoSuchElementException.class, tree::first);
        Check.due("no version", tree.count(), 0);
        Check.due("the tape stays", tree.end(1), 1);
        Check.dueThrow("none is found", NoSuchElementException.class, () -> tree.find(9));
        Check.due("again", tree.clear(), 0);
        Check.due("put after it", Check.put(tree, "b", 2, 30, 1), 1);
        Check.dueThrow("none is current still", NoSuchElementException.class, () -> tree.current(1));
        Check.due("the new one alone", tree.first(), 30);
        Check.dueThrow("nothing behind it", NoSuchElementException.class, tree::next);
        Check.finish();
    }
}
