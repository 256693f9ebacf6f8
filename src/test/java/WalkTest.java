import java.util.NoSuchElementException;

/** Promises 7 and 8: next and first. */
public final class WalkTest {
    public static void main(String[] args) {
        walkGoesThroughAll();
        nextWithoutCurrentThrows();
        nextBehindTheLastLeavesNoneCurrent();
        nextSeesWhatCameSince();
        firstGoesBack();
        firstOfNoneThrows();
        Check.finish();
    }

    private static void walkGoesThroughAll() {
        MomentTree tree = new MomentTree();
        int keys = 30;
        for (int i = 0; i < keys * 3; i++) {
            int turn = i * 47 % (keys * 3);
            tree.feed(turn / 3, 0, 0, 0, 0);
            tree.put(2 - turn % 3, turn, 1);
        }
        Check.due("first", tree.first(), 0);
        for (int place = 1; place < keys * 3; place++) {
            Check.due("next", tree.next(), place);
        }
        Check.due("the last one's moment", tree.current(0), 0);
        Check.dueThrow("behind the last", NoSuchElementException.class, tree::next);
    }

    private static void nextWithoutCurrentThrows() {
        MomentTree tree = new MomentTree();
        Check.dueThrow("no version", NoSuchElementException.class, tree::next);
        Check.put(tree, "a", 1, 1, 1);
        Check.dueThrow("none is current", NoSuchElementException.class, tree::next);
        Check.dueThrow("none is current still", NoSuchElementException.class, tree::next);
    }

    private static void nextBehindTheLastLeavesNoneCurrent() {
        MomentTree tree = new MomentTree();
        Check.put(tree, "a", 1, 1, 1);
        Check.put(tree, "b", 1, 2, 1);
        tree.first();
        Check.due("the last", tree.next(), 2);
        Check.dueThrow("behind it", NoSuchElementException.class, tree::next);
        Check.dueThrow("none is current", NoSuchElementException.class, () -> tree.current(0));
        Check.dueThrow("none has a word", NoSuchElementException.class, () -> tree.word(0));
        Check.dueThrow("and none comes", NoSuchElementException.class, tree::next);
    }

    private static void nextSeesWhatCameSince() {
        MomentTree tree = new MomentTree();
        Check.put(tree, "a", 5, 1, 1);
        Check.put(tree, "c", 5, 3, 1);
        tree.first();
        Check.put(tree, "b", 5, 2, 1);
        Check.put(tree, "a", 9, 9, 1);
        Check.put(tree, "a", 4, 4, 1);
        Check.due("a lower moment", tree.next(), 4);
        Check.due("a key between", tree.next(), 2);
        Check.write(tree, "dd");
        Check.due("next", tree.next(), 3);
        Check.due("next leaves the tape", Check.tapeLength(tree), 2);
    }

    private static void firstGoesBack() {
        MomentTree tree = new MomentTree();
        Check.put(tree, "b", 5, 1, 1);
        Check.put(tree, "c", 5, 2, 1);
        Check.due("first", tree.first(), 1);
        tree.next();
        Check.due("first again", tree.first(), 1);
        Check.put(tree, "b", 6, -1, 1);
        Check.write(tree, "dd");
        Check.due("a new first", tree.first(), -1);
        Check.due("it is current", tree.current(0), 6);
        Check.due("first leaves the tape", Check.tapeLength(tree), 2);
    }

    private static void firstOfNoneThrows() {
        MomentTree tree = new MomentTree();
        Check.write(tree, "k");
        Check.dueThrow("first", NoSuchElementException.class, tree::first);
        Check.due("first that throws leaves the tape", Check.tapeLength(tree), 1);
    }
}
