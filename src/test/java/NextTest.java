import java.util.NoSuchElementException;

/** Promise 7: next. */
public final class NextTest {
    public static void main(String[] args) {
        theOneBehindIsCurrent();
        allAreGoneThrough();
        itIsTheOneBehindNow();
        behindTheLastThereIsNone();
        behindTheOnlyOneThereIsNone();
        noneIsCurrentBehindTheLast();
        withoutCurrentThereIsNone();
        withoutCurrentNoneComes();
        itGoesOnFromWhereASearchWent();
        Check.finish();
    }

    /** "The VERSION behind the CURRENT one is CURRENT"; "Answers its PLACE." */
    private static void theOneBehindIsCurrent() {
        MomentTree tree = new MomentTree();
        Check.put(tree, "a", 2, 12, 1);
        Check.put(tree, "a", 1, -1, 2);
        Check.put(tree, "aa", 3, 23, 3);
        tree.first();
        Check.due("a lower moment", tree.next(), -1);
        Check.due("it is current, moment", tree.current(0), 1);
        Check.due("it is current, place", tree.current(1), -1);
        Check.due("it is current, size", tree.current(2), 2);
        Check.due("the next key", tree.next(), 23);
        Check.due("it is current, length", tree.current(3), 2);
    }

    /** Of the document's beginning: "gone on from ... however many there are". */
    private static void allAreGoneThrough() {
        MomentTree tree = new MomentTree();
        for (int i = 0; i < 160; i++) {
            int turn = i * 47 % 160;
            tree.feed(turn / 4, 0, 0, 0, 0);
            tree.put(3 - turn % 4, turn, 1);
        }
        Check.due("first", tree.first(), 0);
        for (int place = 1; place < 160; place++) {
            Check.due("next", tree.next(), place);
        }
        Check.due("the last one's moment", tree.current(0), 0);
        Check.dueThrow("behind the last", NoSuchElementException.class, tree::next);
    }

    /** "The VERSION behind the CURRENT one": with what has come since. */
    private static void itIsTheOneBehindNow() {
        MomentTree tree = new MomentTree();
        Check.put(tree, "a", 5, 1, 1);
        Check.put(tree, "c", 5, 3, 1);
        tree.first();
        Check.put(tree, "b", 5, 2, 1);
        Check.put(tree, "a", 9, 9, 1);
        Check.put(tree, "a", 4, 4, 1);
        Check.due("a lower moment", tree.next(), 4);
        Check.due("a key between", tree.next(), 2);
        Check.put(tree, "c", 5, 33, 1);
        Check.due("a place that was changed", tree.next(), 33);
        Check.put(tree, "d", 5, 5, 1);
        Check.due("a new last one", tree.next(), 5);
    }

    /** "there is none ...: NoSuchElementException". */
    private static void behindTheLastThereIsNone() {
        MomentTree tree = new MomentTree();
        Check.put(tree, "a", 1, 1, 1);
        Check.put(tree, "a", 0, 2, 1);
        tree.first();
        Check.due("the last", tree.next(), 2);
        Check.dueThrow("behind it", NoSuchElementException.class, tree::next);
        Check.dueThrow("and again", NoSuchElementException.class, tree::next);
    }

    /** The same: there is one version. */
    private static void behindTheOnlyOneThereIsNone() {
        MomentTree tree = new MomentTree();
        Check.put(tree, "a", 1, 1, 1);
        tree.first();
        Check.dueThrow("behind it", NoSuchElementException.class, tree::next);
    }

    /** "and none is". */
    private static void noneIsCurrentBehindTheLast() {
        MomentTree tree = new MomentTree();
        Check.put(tree, "a", 1, 1, 1);
        tree.first();
        Check.dueThrow("behind it", NoSuchElementException.class, tree::next);
        Check.dueNoneCurrent("behind it", tree);
        Check.put(tree, "b", 1, 2, 1);
        Check.dueThrow("nor with a new last one", NoSuchElementException.class, tree::next);
        Check.due("count", tree.count(), 2);
    }

    /** "or none is CURRENT: NoSuchElementException". */
    private static void withoutCurrentThereIsNone() {
        MomentTree tree = new MomentTree();
        Check.dueThrow("no version", NoSuchElementException.class, tree::next);
        Check.put(tree, "a", 1, 1, 1);
        Check.put(tree, "b", 1, 2, 1);
        Check.dueThrow("none is current", NoSuchElementException.class, tree::next);
        tree.first();
        tree.clear();
        Check.dueThrow("cleared", NoSuchElementException.class, tree::next);
    }

    /** "or none is CURRENT ..., and none is". */
    private static void withoutCurrentNoneComes() {
        MomentTree tree = new MomentTree();
        Check.put(tree, "a", 1, 1, 1);
        Check.dueThrow("none is current", NoSuchElementException.class, tree::next);
        Check.dueNoneCurrent("none is current", tree);
        Check.dueThrow("none is current still", NoSuchElementException.class, tree::next);
    }

    private static void itGoesOnFromWhereASearchWent() {
        MomentTree tree = new MomentTree();
        for (int i = 0; i < 10; i++) {
            Check.put(tree, "k" + i, 1, i, 1);
        }
        Check.find(tree, "k3", 9);
        Check.due("behind what was found", tree.next(), 4);
        Check.seek(tree, "k6", 1, true);
        Check.due("behind what was sought", tree.next(), 8);
    }
}
