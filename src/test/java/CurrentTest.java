import java.util.NoSuchElementException;

/** Promise 9: current. */
public final class CurrentTest {
    public static void main(String[] args) {
        eachNumberIsTold();
        theEndsOfEachNumberAreTold();
        otherNumbersAreRefused();
        otherNumbersAreRefusedFirst();
        noneIsCurrent();
        noneIsCurrentAnyMore();
        currentLeavesAllElse();
        Check.finish();
    }

    /** "Of the CURRENT one: 0 MOMENT, 1 PLACE, 2 SIZE, 3 the length of its KEY." */
    private static void eachNumberIsTold() {
        MomentTree tree = new MomentTree();
        Check.put(tree, "seven77", 11, 22, 33);
        Check.put(tree, "z", 44, 55, 66);
        Check.find(tree, "seven77", 11);
        Check.due("moment", tree.current(0), 11);
        Check.due("place", tree.current(1), 22);
        Check.due("size", tree.current(2), 33);
        Check.due("length", tree.current(3), 7);
        tree.next();
        Check.due("next moment", tree.current(0), 44);
        Check.due("next place", tree.current(1), 55);
        Check.due("next size", tree.current(2), 66);
        Check.due("next length", tree.current(3), 1);
    }

    /** The same: the least and the greatest that there are. */
    private static void theEndsOfEachNumberAreTold() {
        MomentTree tree = new MomentTree();
        Check.put(tree, "a", 0, -1, 0);
        Check.put(tree, Check.repeated('b', 40), Integer.MAX_VALUE, Integer.MAX_VALUE, 1000);
        tree.first();
        Check.due("least moment", tree.current(0), 0);
        Check.due("least place", tree.current(1), -1);
        Check.due("least size", tree.current(2), 0);
        Check.due("least length", tree.current(3), 1);
        tree.next();
        Check.due("greatest moment", tree.current(0), Integer.MAX_VALUE);
        Check.due("greatest place", tree.current(1), Integer.MAX_VALUE);
        Check.due("greatest size", tree.current(2), 1000);
        Check.due("greatest length", tree.current(3), 40);
    }

    private static final int[] OTHERS = {-1, 4, 5, Integer.MIN_VALUE, Integer.MAX_VALUE};

    /** Of "Terms": "IllegalArgumentException: a number out of range". */
    private static void otherNumbersAreRefused() {
        MomentTree tree = new MomentTree();
        Check.put(tree, "k", 1, 2, 3);
        tree.first();
        for (int what : OTHERS) {
            Check.dueThrow("current(" + what + ")", IllegalArgumentException.class,
                    () -> tree.current(what));
        }
        Check.due("it stays current", tree.current(1), 2);
    }

    /** Of "Terms": "in this order". */
    private static void otherNumbersAreRefusedFirst() {
        MomentTree tree = new MomentTree();
        for (int what : OTHERS) {
            Check.dueThrow("none is current, current(" + what + ")", IllegalArgumentException.class,
                    () -> tree.current(what));
        }
    }

    /** "None is: NoSuchElementException." */
    private static void noneIsCurrent() {
        MomentTree tree = new MomentTree();
        Check.dueNoneCurrent("no version", tree);
        Check.put(tree, "k", 1, 2, 3);
        Check.dueNoneCurrent("none was gone to", tree);
    }

    /** The same, after one was. */
    private static void noneIsCurrentAnyMore() {
        MomentTree tree = new MomentTree();
        Check.put(tree, "k", 1, 2, 3);
        tree.first();
        Check.dueThrow("next", NoSuchElementException.class, tree::next);
        Check.dueNoneCurrent("behind the last", tree);
        tree.first();
        Check.dueThrow("find", NoSuchElementException.class, () -> Check.find(tree, "j", 1));
        Check.dueNoneCurrent("not found", tree);
        tree.first();
        Check.dueThrow("seek", NoSuchElementException.class, () -> Check.seek(tree, "l", 1, false));
        Check.dueNoneCurrent("not sought", tree);
        tree.first();
        tree.clear();
        Check.dueNoneCurrent("cleared", tree);
    }

    private static void currentLeavesAllElse() {
        MomentTree tree = new MomentTree();
        Check.put(tree, "k", 1, 2, 3);
        Check.put(tree, "l", 4, 5, 6);
        tree.first();
        Check.write(tree, "dd");
        for (int what = 0; what < 4; what++) {
            tree.current(what);
        }
        Check.dueTape("current", tree, 2);
        Check.due("what is behind it", tree.next(), 5);
        Check.due("count", tree.count(), 2);
    }
}
