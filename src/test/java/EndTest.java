/** Promise 3: end. */
public final class EndTest {
    public static void main(String[] args) {
        theFirstBytesAreKept();
        theRestIsGone();
        everyLengthUpToItsOwnIsTaken();
        belowZeroIsRefused();
        aboveItsLengthIsRefused();
        endLeavesAllElse();
        Check.finish();
    }

    /** "The TAPE keeps its first n bytes". */
    private static void theFirstBytesAreKept() {
        MomentTree tree = new MomentTree();
        tree.feed(0x61626364, 0x65666768, 0, 0, 0);
        tree.end(6);
        tree.put(0, 0, 0);
        tree.first();
        Check.due("the length", tree.current(3), 6);
        Check.due("the bytes", tree.word(0), 0x6162636465660000L);
    }

    /** The same: the others do not come back with what is fed. */
    private static void theRestIsGone() {
        MomentTree tree = new MomentTree();
        tree.feed(-1, -1, -1, -1, -1);
        tree.end(2);
        tree.feed(0, 0, 0, 0, 0);
        Check.dueThrow("more than there is", IllegalArgumentException.class, () -> tree.end(23));
        tree.put(0, 0, 0);
        tree.first();
        Check.due("the first", tree.word(0), 0xffff000000000000L);
        Check.due("the others", tree.word(14), 0);
    }

    /** "n 0 .. its length. Answers n." */
    private static void everyLengthUpToItsOwnIsTaken() {
        MomentTree tree = new MomentTree();
        Check.due("0 of an empty one", tree.end(0), 0);
        Check.write(tree, Check.repeated('t', 60));
        for (int n = 60; n >= 0; n--) {
            Check.due("end at its length " + n, tree.end(n), n);
            int above = n + 1;
            Check.dueThrow("one more", IllegalArgumentException.class, () -> tree.end(above));
        }
        Check.due("0 again", tree.end(0), 0);
    }

    /** "n 0 .. its length": too small. */
    private static void belowZeroIsRefused() {
        for (int n : new int[] {-1, -20, Integer.MIN_VALUE}) {
            MomentTree tree = new MomentTree();
            Check.dueThrow("end of none at " + n, IllegalArgumentException.class, () -> tree.end(n));
            Check.write(tree, "seven77");
            Check.dueThrow("end at " + n, IllegalArgumentException.class, () -> tree.end(n));
            Check.dueTape("end at " + n, tree, 7);
        }
    }

    /** "n 0 .. its length": too large, though the tape could have so many or had. */
    private static void aboveItsLengthIsRefused() {
        for (int n : new int[] {8, 20, 60, 61, Integer.MAX_VALUE}) {
            MomentTree tree = new MomentTree();
            Check.dueThrow("end of none at " + n, IllegalArgumentException.class, () -> tree.end(n));
            Check.write(tree, Check.repeated('t', 60));
            tree.end(7);
            Check.dueThrow("end at " + n, IllegalArgumentException.class, () -> tree.end(n));
            Check.dueTape("end at " + n, tree, 7);
        }
    }

    private static void endLeavesAllElse() {
        MomentTree tree = new MomentTree();
        Check.put(tree, "k", 1, 2, 3);
        tree.first();
        Check.write(tree, "abc");
        tree.end(1);
        Check.due("current", Told.currentOf(tree), "1 2 3 1 6b00000000000000");
        Check.due("versions", Told.versionsOf(tree), "1; 1 2 3 1 6b00000000000000.");
    }
}
