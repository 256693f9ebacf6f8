import java.util.NoSuchElementException;

/** Promise 5: find. */
public final class FindTest {
    public static void main(String[] args) {
        findTakesTheGreatestNotAbove();
        findKeepsToTheKey();
        findThatMissesLeavesNoneCurrent();
        findTakesAnyMoment();
        findRefusesTapesThatAreNoKey();
        Check.finish();
    }

    private static MomentTree withThreeKeys() {
        MomentTree tree = new MomentTree();
        Check.put(tree, "ab", 10, 110, 1);
        Check.put(tree, "ab", 20, 120, 2);
        Check.put(tree, "ab", 30, 130, 3);
        Check.put(tree, "a", 15, 15, 4);
        Check.put(tree, "abc", 5, 205, 5);
        return tree;
    }

    private static void findTakesTheGreatestNotAbove() {
        MomentTree tree = withThreeKeys();
        Check.due("at 10", Check.find(tree, "ab", 10), 110);
        Check.due("find empties the tape", Check.tapeLength(tree), 0);
        Check.due("at 19", Check.find(tree, "ab", 19), 110);
        Check.due("at 20", Check.find(tree, "ab", 20), 120);
        Check.due("at 29", Check.find(tree, "ab", 29), 120);
        Check.due("it is current", tree.current(0), 20);
        Check.due("at 30", Check.find(tree, "ab", 30), 130);
        Check.due("above all", Check.find(tree, "ab", 31), 130);
    }

    private static void findKeepsToTheKey() {
        MomentTree tree = withThreeKeys();
        Check.due("the beginning", Check.find(tree, "a", 99), 15);
        Check.due("what goes on", Check.find(tree, "abc", 99), 205);
        Check.dueThrow("no such key, before", NoSuchElementException.class,
                () -> Check.find(tree, "aa", 99));
        Check.dueThrow("no such key, zero behind", NoSuchElementException.class,
                () -> Check.find(tree, "ab\0", 99));
        Check.dueThrow("no such key, behind all", NoSuchElementException.class,
                () -> Check.find(tree, "b", 99));
        Check.dueThrow("not of this key, though of the next", NoSuchElementException.class,
                () -> Check.find(tree, "ab", 9));
    }

    private static void findThatMissesLeavesNoneCurrent() {
        MomentTree tree = withThreeKeys();
        tree.first();
        Check.dueThrow("below its least", NoSuchElementException.class,
                () -> Check.find(tree, "ab", 9));
        Check.due("the tape is empty then", Check.tapeLength(tree), 0);
        Check.dueThrow("none is current then", NoSuchElementException.class, () -> tree.current(0));
        Check.dueThrow("nor is one next", NoSuchElementException.class, tree::next);
        Check.due("the versions stay", tree.count(), 5);
    }

    private static void findTakesAnyMoment() {
        MomentTree tree = withThreeKeys();
        Check.put(tree, "z", 0, 1, 1);
        Check.put(tree, "z", Integer.MAX_VALUE, 2, 1);
        Check.due("greatest", Check.find(tree, "z", Integer.MAX_VALUE), 2);
        Check.due("one below", Check.find(tree, "z", Integer.MAX_VALUE - 1), 1);
        Check.due("zero", Check.find(tree, "z", 0), 1);
        Check.dueThrow("-1", NoSuchElementException.class, () -> Check.find(tree, "z", -1));
        Check.dueThrow("least", NoSuchElementException.class,
                () -> Check.find(tree, "z", Integer.MIN_VALUE));
    }

    private static void findRefusesTapesThatAreNoKey() {
        MomentTree tree = withThreeKeys();
        tree.first();
        Check.dueThrow("empty tape", IllegalArgumentException.class, () -> tree.find(99));
        tree.feed(0, 0, 0, 0, 0);
        tree.feed(0, 0, 0, 0, 0);
        tree.feed(0, 0, 0, 0, 0);
        tree.end(41);
        Check.dueThrow("tape of 41", IllegalArgumentException.class, () -> tree.find(99));
        Check.due("the tape stays", Check.tapeLength(tree), 41);
        Check.due("current stays", tree.current(1), 15);
        tree.end(40);
        Check.dueThrow("40 are a key", NoSuchElementException.class, () -> tree.find(99));
    }
}
