import java.util.NoSuchElementException;

/** "Terms", the tape and the current version. */
public final class TapeTest {
    private static final String ON_TAPE = "of 2: 0 0 0 2 6161000000000000";

    public static void main(String[] args) {
        theTapeHasAtMostSixtyBytes();
        putLeavesItEmpty();
        putOfTheSameLeavesItEmpty();
        putThatFindsNoRoomLeavesItEmpty();
        findLeavesItEmpty();
        findThatMissesLeavesItEmpty();
        seekLeavesItEmpty();
        seekThatMissesLeavesItEmpty();
        anEmptyTapeThatWasReadStaysEmpty();
        illegalArgumentsLeaveItAsItIs();
        callsThatDoNotReadItLeaveIt();
        callsThatDoNotReadItLeaveItThoughTheyThrow();
        whatIsEmptyIsGone();
        noneIsCurrentAtFirst();
        oneIsCurrentAtATime();
        theCurrentOneIsToldAsItIsNow();
        Check.finish();
    }

    private static MomentTree withTwo() {
        MomentTree tree = new MomentTree();
        Check.put(tree, "k", 5, 50, 500);
        Check.put(tree, "m", 5, 60, 600);
        return tree;
    }

    /** "THE TAPE has at most 60 bytes": from each length there is. */
    private static void theTapeHasAtMostSixtyBytes() {
        for (int length = 0; length <= 60; length++) {
            MomentTree tree = new MomentTree();
            Check.write(tree, Check.repeated('t', length));
            if (length <= 40) {
                Check.due("feed behind " + length, tree.feed(0, 0, 0, 0, 0), length + 20);
            } else {
                Check.dueThrow("feed behind " + length, IndexOutOfBoundsException.class,
                        () -> tree.feed(0, 0, 0, 0, 0));
                Check.dueTape("feed behind " + length, tree, length);
            }
        }
    }

    /** "A call that reads it leaves it empty": put of a new version. */
    private static void putLeavesItEmpty() {
        MomentTree tree = new MomentTree();
        Check.put(tree, "kk", 1, 1, 1);
        Check.dueTape("put", tree, 0);
    }

    /** The same: put of a version that is there. */
    private static void putOfTheSameLeavesItEmpty() {
        MomentTree tree = withTwo();
        Check.put(tree, "k", 5, 1, 1);
        Check.dueTape("put of the same", tree, 0);
    }

    /** The same: put where there are 160. */
    private static void putThatFindsNoRoomLeavesItEmpty() {
        MomentTree tree = Check.full();
        tree.feed(-1, 0, 0, 0, 0);
        Check.dueThrow("put", IllegalStateException.class, () -> tree.put(1, 1, 1));
        Check.dueTape("put without room", tree, 0);
    }

    /** The same: find. */
    private static void findLeavesItEmpty() {
        MomentTree tree = withTwo();
        Check.find(tree, "k", 5);
        Check.dueTape("find", tree, 0);
    }

    /** The same: find that throws NoSuchElementException. */
    private static void findThatMissesLeavesItEmpty() {
        MomentTree tree = withTwo();
        Check.dueThrow("find", NoSuchElementException.class, () -> Check.find(tree, "k", 4));
        Check.dueTape("find that misses", tree, 0);
    }

    /** The same: seek. */
    private static void seekLeavesItEmpty() {
        MomentTree tree = withTwo();
        Check.seek(tree, "k", 5, false);
        Check.dueTape("seek", tree, 0);
        Check.seek(tree, "k", 5, true);
        Check.dueTape("seek beyond", tree, 0);
    }

    /** The same: seek that throws NoSuchElementException. */
    private static void seekThatMissesLeavesItEmpty() {
        MomentTree tree = withTwo();
        Check.dueThrow("seek", NoSuchElementException.class, () -> Check.seek(tree, "n", 0, false));
        Check.dueTape("seek that misses", tree, 0);
    }

    /** The same: seek of 0 bytes. */
    private static void anEmptyTapeThatWasReadStaysEmpty() {
        MomentTree tree = withTwo();
        tree.seek(0, false);
        Check.dueTape("seek of an empty tape", tree, 0);
    }

    /** "unless it throws IllegalArgumentException": the length and the bytes stay. */
    private static void illegalArgumentsLeaveItAsItIs() {
        String bytes = " 6161616161616161".repeat(5);
        for (int length : new int[] {41, 42, 59, 60}) {
            staysAfterIllegal("put of " + length, length, tree -> tree.put(1, 1, 1), bytes);
            staysAfterIllegal("find of " + length, length, tree -> tree.find(1), bytes);
            staysAfterIllegal("seek of " + length, length, tree -> tree.seek(1, false), bytes);
        }
        staysAfterIllegal("put with a wrong moment", 40, tree -> tree.put(-1, 1, 1), bytes);
        staysAfterIllegal("put with a wrong place", 40, tree -> tree.put(1, -2, 1), bytes);
        staysAfterIllegal("put with a wrong size", 40, tree -> tree.put(1, 1, 1001), bytes);
        staysAfterIllegal("put with a wrong size", 8, tree -> tree.put(1, 1, -1), " 6161616161616161");
    }

    private static void staysAfterIllegal(String what, int length, Check.CallOn call, String bytes) {
        MomentTree tree = withTwo();
        Check.write(tree, Check.repeated('a', length));
        Check.dueThrow(what, IllegalArgumentException.class, () -> call.answer(tree));
        Check.due(what, Told.tapeOf(tree), "of " + length + ": 0 0 0 " + Math.min(length, 40) + bytes);
    }

    /** "A call that reads it": no other. */
    private static void callsThatDoNotReadItLeaveIt() {
        stays("next", MomentTree::next);
        stays("first", MomentTree::first);
        stays("current", tree -> tree.current(0));
        stays("word", tree -> tree.word(0));
        stays("clear", MomentTree::clear);
        stays("count", MomentTree::count);
    }

    private static void stays(String what, Check.CallOn call) {
        MomentTree tree = withTwo();
        tree.first();
        Check.write(tree, "aa");
        call.answer(tree);
        Check.due(what + " leaves the tape", Told.tapeOf(tree), ON_TAPE);
    }

    /** The same. */
    private static void callsThatDoNotReadItLeaveItThoughTheyThrow() {
        staysAfterThrow("next", NoSuchElementException.class, MomentTree::next);
        staysAfterThrow("first", NoSuchElementException.class, MomentTree::first);
        staysAfterThrow("current", NoSuchElementException.class, tree -> tree.current(0));
        staysAfterThrow("current", IllegalArgumentException.class, tree -> tree.current(4));
        staysAfterThrow("word", NoSuchElementException.class, tree -> tree.word(0));
    }

    private static void staysAfterThrow(String what, Class<? extends RuntimeException> want,
            Check.CallOn call) {
        MomentTree tree = new MomentTree();
        Check.write(tree, "aa");
        Check.dueThrow(what, want, () -> call.answer(tree));
        Check.due(what + " that throws leaves the tape", Told.tapeOf(tree), ON_TAPE);
    }

    /** "empty": what is written afterwards stands alone. */
    private static void whatIsEmptyIsGone() {
        MomentTree tree = new MomentTree();
        Check.put(tree, Check.repeated('x', 40), 1, 1, 1);
        Check.due("feed after put", tree.feed(0x61626364, 0, 0, 0, 0), 20);
        tree.end(2);
        tree.put(1, 2, 1);
        Check.due("its place", tree.first(), 2);
        Check.due("its length", tree.current(3), 2);
        Check.due("its bytes", tree.word(0), 0x6162000000000000L);
    }

    /** "One VERSION may be CURRENT (none at first)": nor by puts, nor by count. */
    private static void noneIsCurrentAtFirst() {
        MomentTree tree = new MomentTree();
        Check.dueNoneCurrent("new", tree);
        Check.put(tree, "k", 1, 1, 1);
        tree.count();
        Check.dueNoneCurrent("after put", tree);
        Check.dueThrow("next", NoSuchElementException.class, tree::next);
    }

    /** "One VERSION may be CURRENT": the one that was gone to last. */
    private static void oneIsCurrentAtATime() {
        MomentTree tree = withTwo();
        tree.first();
        Check.due("after first", tree.current(1), 50);
        tree.next();
        Check.due("after next", tree.current(1), 60);
        Check.find(tree, "k", 9);
        Check.due("after find", tree.current(1), 50);
        Check.seek(tree, "l", 0, false);
        Check.due("after seek", tree.current(1), 60);
        tree.first();
        Check.due("after first again", tree.current(1), 50);
    }

    /** "what is told of it is as it is now". */
    private static void theCurrentOneIsToldAsItIsNow() {
        MomentTree tree = withTwo();
        tree.first();
        Check.put(tree, "k", 5, -1, 0);
        Check.due("moment", tree.current(0), 5);
        Check.due("place", tree.current(1), -1);
        Check.due("size", tree.current(2), 0);
        Check.put(tree, "k", 5, 51, 501);
        Check.due("place again", tree.current(1), 51);
        Check.due("size again", tree.current(2), 501);
        Check.due("length", tree.current(3), 1);
        Check.due("word", tree.word(0), 0x6b00000000000000L);
    }
}
