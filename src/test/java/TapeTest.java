/** Promises 1 to 3: a new object, feed, end. */
public final class TapeTest {
    public static void main(String[] args) {
        newObjectHasNothing();
        feedAnswersTheLength();
        feedRefusesMoreThanSixty();
        feedPutsTheHighestByteFirst();
        feedGoesOnBehindWhatIsThere();
        endKeepsTheFirstBytes();
        endRefusesOtherLengths();
        Check.finish();
    }

    private static void newObjectHasNothing() {
        MomentTree tree = new MomentTree();
        Check.due("new: tape", Check.tapeLength(tree), 0);
        Check.due("new: count", tree.count(), 0);
        Check.dueThrow("new: first", java.util.NoSuchElementException.class, tree::first);
        Check.dueThrow("new: next", java.util.NoSuchElementException.class, tree::next);
        Check.dueThrow("new: current", java.util.NoSuchElementException.class, () -> tree.current(0));
        Check.dueThrow("new: word", java.util.NoSuchElementException.class, () -> tree.word(0));
        Check.due("new: clear", tree.clear(), 0);
        MomentTree other = new MomentTree();
        Check.put(other, "a", 1, 1, 1);
        Check.due("new: two objects share nothing", tree.count(), 0);
    }

    private static void feedAnswersTheLength() {
        MomentTree tree = new MomentTree();
        Check.due("feed to 20", tree.feed(1, 2, 3, 4, 5), 20);
        Check.due("feed to 40", tree.feed(1, 2, 3, 4, 5), 40);
        Check.due("feed to 60", tree.feed(1, 2, 3, 4, 5), 60);
    }

    private static void feedRefusesMoreThanSixty() {
        MomentTree tree = new MomentTree();
        tree.feed(0x61616161, 0, 0, 0, 0);
        tree.feed(0, 0, 0, 0, 0);
        tree.end(40);
        Check.due("feed from 40", tree.feed(0, 0, 0, 0, 0), 60);
        tree.end(41);
        Check.dueThrow("feed from 41", IndexOutOfBoundsException.class, () -> tree.feed(9, 9, 9, 9, 9));
        Check.due("feed that throws leaves the length", Check.tapeLength(tree), 41);
        tree.end(40);
        tree.put(0, 0, 0);
        tree.first();
        Check.due("feed that throws leaves the bytes", tree.word(0), 0x6161616100000000L);
        Check.due("and those behind", tree.word(32), 0);
        feedRefusesWhenFull();
    }

    private static void feedRefusesWhenFull() {
        MomentTree tree = new MomentTree();
        tree.feed(0, 0, 0, 0, 0);
        tree.feed(0, 0, 0, 0, 0);
        tree.feed(0, 0, 0, 0, 0);
        Check.dueThrow("feed from 60", IndexOutOfBoundsException.class, () -> tree.feed(0, 0, 0, 0, 0));
        Check.due("feed from 60 leaves the length", Check.tapeLength(tree), 60);
    }

    private static void feedPutsTheHighestByteFirst() {
        MomentTree tree = new MomentTree();
        tree.feed(0x01020304, 0x85868788, 0x090a0b0c, 0xfdfeff00, 0x80000001);
        tree.put(0, 0, 0);
        tree.first();
        Check.due("bytes 0 to 7", tree.word(0), 0x0102030485868788L);
        Check.due("bytes 8 to 15", tree.word(8), 0x090a0b0cfdfeff00L);
        Check.due("bytes 16 to 19", tree.word(16), 0x8000000100000000L);
    }

    private static void feedGoesOnBehindWhatIsThere() {
        MomentTree tree = new MomentTree();
        tree.feed(0x61626364, 0, 0, 0, 0);
        tree.end(3);
        Check.due("feed from 3", tree.feed(0x01020304, 0x05060708, 0, 0, 9), 23);
        tree.put(0, 0, 0);
        tree.first();
        Check.due("what was there stands first", tree.word(0), 0x6162630102030405L);
        Check.due("the last byte fed stands last", tree.word(22), 0x0900000000000000L);
    }

    private static void endKeepsTheFirstBytes() {
        MomentTree tree = new MomentTree();
        tree.feed(0x61626364, 0x65666768, 0, 0, 0);
        Check.due("end at its length", tree.end(20), 20);
        Check.due("end at 6", tree.end(6), 6);
        tree.put(0, 0, 0);
        tree.first();
        Check.due("end keeps the length", tree.current(3), 6);
        Check.due("end keeps the first", tree.word(0), 0x6162636465660000L);
        tree.feed(1, 1, 1, 1, 1);
        Check.due("end at 0", tree.end(0), 0);
        Check.due("end at 0 again", tree.end(0), 0);
        tree.feed(0, 0, 0, 0, 0);
        tree.feed(0, 0, 0, 0, 0);
        tree.feed(0, 0, 0, 0, 0);
        Check.due("end at 60", tree.end(60), 60);
    }

    private static void endRefusesOtherLengths() {
        MomentTree tree = new MomentTree();
        Check.dueThrow("end(1) of none", IllegalArgumentException.class, () -> tree.end(1));
        tree.feed(0, 0, 0, 0, 0);
        tree.end(7);
        Check.dueThrow("end(8) of 7", IllegalArgumentException.class, () -> tree.end(8));
        Check.dueThrow("end(-1)", IllegalArgumentException.class, () -> tree.end(-1));
        Check.dueThrow("end(least)", IllegalArgumentException.class, () -> tree.end(Integer.MIN_VALUE));
        Check.dueThrow("end(greatest)", IllegalArgumentException.class, () -> tree.end(Integer.MAX_VALUE));
        Check.due("end that throws changes nothing", Check.tapeLength(tree), 7);
    }
}
