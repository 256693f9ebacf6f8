import java.util.NoSuchElementException;

/** Promise 11: clear. */
public final class ClearTest {
    public static void main(String[] args) {
        thereIsNoVersion();
        noneIsCurrent();
        theTapeStays();
        theLongestTapeStays();
        clearAnswersHowManyThereWere();
        aClearedObjectIsFilledAgain();
        Check.finish();
    }

    private static MomentTree withThree() {
        MomentTree tree = new MomentTree();
        Check.put(tree, "a", 1, 1, 1);
        Check.put(tree, "b", 1, 2, 1);
        Check.put(tree, "b", 2, 3, 1);
        return tree;
    }

    /** "There is no VERSION". */
    private static void thereIsNoVersion() {
        MomentTree tree = withThree();
        tree.clear();
        Check.due("count", tree.count(), 0);
        Check.dueThrow("first", NoSuchElementException.class, tree::first);
        Check.dueThrow("find", NoSuchElementException.class, () -> Check.find(tree, "b", 9));
        Check.dueThrow("seek", NoSuchElementException.class, () -> tree.seek(0, false));
    }

    /** "none is CURRENT": nor when there are versions again. */
    private static void noneIsCurrent() {
        MomentTree tree = withThree();
        tree.first();
        tree.clear();
        Check.dueNoneCurrent("cleared", tree);
        Check.dueThrow("next", NoSuchElementException.class, tree::next);
        Check.put(tree, "a", 1, 1, 1);
        Check.put(tree, "b", 2, 2, 1);
        Check.dueNoneCurrent("put again", tree);
        Check.dueThrow("next, put again", NoSuchElementException.class, tree::next);
    }

    /** "the TAPE stays": its length and its bytes. */
    private static void theTapeStays() {
        MomentTree tree = withThree();
        Check.write(tree, "bcd");
        tree.clear();
        Check.dueTape("cleared", tree, 3);
        Check.due("it is a key", tree.put(1, 7, 1), 1);
        tree.first();
        Check.due("its bytes", tree.word(0), 0x6263640000000000L);
        tree.clear();
        Check.dueTape("an empty one stays empty", tree, 0);
    }

    /** The same: all 60 of it. */
    private static void theLongestTapeStays() {
        MomentTree tree = withThree();
        Check.write(tree, Check.repeated('t', 60));
        tree.clear();
        Check.dueTape("cleared", tree, 60);
    }

    /** "Answers how many there were": from none to 160. */
    private static void clearAnswersHowManyThereWere() {
        MomentTree tree = new MomentTree();
        Check.due("of none", tree.clear(), 0);
        Check.put(tree, "a", 1, 1, 1);
        Check.due("of one", tree.clear(), 1);
        Check.due("again", tree.clear(), 0);
        Check.due("of three", withThree().clear(), 3);
        Check.due("of 160", Check.full().clear(), 160);
    }

    private static void aClearedObjectIsFilledAgain() {
        MomentTree tree = withThree();
        tree.clear();
        Check.due("put", Check.put(tree, "b", 2, 30, 9), 1);
        Check.due("versions", Told.versionsOf(tree), "1; 2 30 9 1 6200000000000000.");
    }
}
