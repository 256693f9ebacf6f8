/** Promise 2: feed. */
public final class FeedTest {
    public static void main(String[] args) {
        theHighestByteComesFirst();
        everyIntKeepsItsPlace();
        bytesComeBehindWhatIsThere();
        sixtyBytesFit();
        moreThanSixtyAreRefused();
        feedLeavesAllElse();
        Check.finish();
    }

    /** "The 20 bytes of five ints, the highest of each first, come to the TAPE". */
    private static void theHighestByteComesFirst() {
        MomentTree tree = new MomentTree();
        tree.feed(0x01020304, 0x85868788, 0x090a0b0c, 0xfdfeff00, 0x80000001);
        tree.put(0, 0, 0);
        tree.first();
        Check.due("how many", tree.current(3), 20);
        Check.due("bytes 0 to 7", tree.word(0), 0x0102030485868788L);
        Check.due("bytes 8 to 15", tree.word(8), 0x090a0b0cfdfeff00L);
        Check.due("bytes 16 to 19", tree.word(16), 0x8000000100000000L);
    }

    /** The same at the ends of int. */
    private static void everyIntKeepsItsPlace() {
        MomentTree tree = new MomentTree();
        tree.feed(Integer.MIN_VALUE, Integer.MAX_VALUE, -1, 0, 1);
        tree.put(0, 0, 0);
        tree.first();
        Check.due("least and greatest", tree.word(0), 0x800000007fffffffL);
        Check.due("-1 and 0", tree.word(8), 0xffffffff00000000L);
        Check.due("1", tree.word(16), 0x0000000100000000L);
    }

    /** "come to the TAPE": behind the bytes that it has. */
    private static void bytesComeBehindWhatIsThere() {
        MomentTree tree = new MomentTree();
        tree.feed(0x61626364, 0, 0, 0, 0);
        tree.end(3);
        Check.due("feed from 3", tree.feed(0x01020304, 0x05060708, 0, 0, 9), 23);
        tree.put(0, 0, 0);
        tree.first();
        Check.due("what was there stands first", tree.word(0), 0x6162630102030405L);
        Check.due("the last byte fed stands last", tree.word(22), 0x0900000000000000L);
    }

    /** "Answers its length", up to 60. */
    private static void sixtyBytesFit() {
        MomentTree tree = new MomentTree();
        Check.due("feed to 20", tree.feed(1, 2, 3, 4, 5), 20);
        Check.due("feed to 40", tree.feed(6, 7, 8, 9, 10), 40);
        Check.due("feed to 60", tree.feed(11, 12, 13, 14, 15), 60);
        Check.dueTape("all are there", tree, 60);
        tree.end(40);
        tree.put(0, 0, 0);
        tree.first();
        for (int i = 0; i < 5; i++) {
            Check.due("word " + i, tree.word(i * 8), (i * 2 + 1L) << 32 | i * 2 + 2);
        }
    }

    /** "it would have more than 60: IndexOutOfBoundsException". */
    private static void moreThanSixtyAreRefused() {
        for (int length : new int[] {41, 59, 60}) {
            MomentTree tree = new MomentTree();
            Check.write(tree, Check.repeated('t', length));
            Check.dueThrow("feed from " + length, IndexOutOfBoundsException.class,
                    () -> tree.feed(9, 9, 9, 9, 9));
            Check.dueThrow("again from " + length, IndexOutOfBoundsException.class,
                    () -> tree.feed(9, 9, 9, 9, 9));
            Check.dueTape("feed from " + length, tree, length);
            tree.end(40);
            Check.due("from 40 afterwards", tree.feed(9, 9, 9, 9, 9), 60);
        }
    }

    private static void feedLeavesAllElse() {
        MomentTree tree = new MomentTree();
        Check.put(tree, "k", 1, 2, 3);
        tree.first();
        tree.feed(-1, -1, -1, -1, -1);
        Check.due("current", Told.currentOf(tree), "1 2 3 1 6b00000000000000");
        Check.due("versions", Told.versionsOf(tree), "1; 1 2 3 1 6b00000000000000.");
    }
}
