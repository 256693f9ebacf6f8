import java.util.NoSuchElementException;

/** Promise 4: put. */
public final class PutTest {
    public static void main(String[] args) {
        putAnswersHowMany();
        putChangesTheOneThatIsThere();
        putLeavesTheCurrentOne();
        putTakesTheEdges();
        putRefusesNumbersOutOfRange();
        putRefusesTapesThatAreNoKey();
        putRefusesMoreThanAHundredSixty();
        Check.finish();
    }

    private static void putAnswersHowMany() {
        MomentTree tree = new MomentTree();
        Check.due("first", Check.put(tree, "b", 1, 10, 1), 1);
        Check.due("put empties the tape", Check.tapeLength(tree), 0);
        Check.due("another moment", Check.put(tree, "b", 2, 20, 1), 2);
        Check.due("a longer key", Check.put(tree, "ba", 2, 30, 1), 3);
        Check.due("a key with a zero behind", Check.put(tree, "b\0", 2, 40, 1), 4);
        Check.due("the same again", Check.put(tree, "b", 2, 50, 1), 4);
        Check.due("put of the same empties the tape", Check.tapeLength(tree), 0);
    }

    private static void putChangesTheOneThatIsThere() {
        MomentTree tree = new MomentTree();
        Check.put(tree, "k", 7, 70, 700);
        Check.put(tree, "k", 6, 60, 600);
        Check.put(tree, "k", 7, -1, 0);
        Check.due("new place", Check.find(tree, "k", 7), -1);
        Check.due("new size", tree.current(2), 0);
        Check.due("moment stays", tree.current(0), 7);
        Check.due("the other stays", Check.find(tree, "k", 6), 60);
        Check.due("its size too", tree.current(2), 600);
    }

    private static void putLeavesTheCurrentOne() {
        MomentTree tree = new MomentTree();
        Check.put(tree, "m", 5, 1, 2);
        Check.dueThrow("put makes none current", NoSuchElementException.class, () -> tree.current(0));
        tree.first();
        for (int i = 0; i < 20; i++) {
            Check.put(tree, "m" + (char) ('a' + i), 5, 100 + i, 3);
            Check.put(tree, "" + (char) ('a' + i), 9, 200 + i, 4);
        }
        Check.due("current stays, its moment", tree.current(0), 5);
        Check.due("current stays, its place", tree.current(1), 1);
        Check.due("current stays, its size", tree.current(2), 2);
        Check.put(tree, "m", 5, 77, 88);
        Check.due("its place as it is now", tree.current(1), 77);
        Check.due("its size as it is now", tree.current(2), 88);
        Check.put(tree, "m", 4, 66, 6);
        Check.due("the new one behind it is next", tree.next(), 66);
    }

    private static void putTakesTheEdges() {
        MomentTree tree = new MomentTree();
        Check.due("least numbers", Check.put(tree, "k", 0, -1, 0), 1);
        Check.due("greatest numbers",
                Check.put(tree, "k", Integer.MAX_VALUE, Integer.MAX_VALUE, 1000), 2);
        Check.due("greatest moment first", tree.first(), Integer.MAX_VALUE);
        Check.due("greatest moment", tree.current(0), Integer.MAX_VALUE);
        Check.due("greatest size", tree.current(2), 1000);
        Check.due("place -1", tree.next(), -1);
        Check.due("moment 0", tree.current(0), 0);
        Check.due("longest key", Check.put(tree, Check.repeated('z', 40), 1, 1, 1), 3);
        Check.due("longest key's length", tree.current(3), 1);
        tree.next();
        Check.due("its length", tree.current(3), 40);
    }

    private static void refused(MomentTree tree, int moment, int place, int size) {
        String what = "put(" + moment + ", " + place + ", " + size + ")";
        Check.dueThrow(what, IllegalArgumentException.class, () -> tree.put(moment, place, size));
    }

    private static void putRefusesNumbersOutOfRange() {
        MomentTree tree = new MomentTree();
        Check.write(tree, "key");
        refused(tree, -1, 0, 0);
        refused(tree, Integer.MIN_VALUE, 0, 0);
        refused(tree, 0, -2, 0);
        refused(tree, 0, Integer.MIN_VALUE, 0);
        refused(tree, 0, 0, -1);
        refused(tree, 0, 0, 1001);
        refused(tree, 0, 0, Integer.MAX_VALUE);
        refused(tree, 0, 0, Integer.MIN_VALUE);
        Check.due("the tape stays", Check.tapeLength(tree), 3);
        Check.due("no version comes", tree.count(), 0);
        tree.put(1, 5, 6);
        tree.first();
        Check.due("its bytes too", tree.word(0), 0x6b65790000000000L);
        Check.write(tree, "key");
        refused(tree, 1, 9, 1001);
        Check.due("the one that is there stays, place", tree.current(1), 5);
        Check.due("the one that is there stays, size", tree.current(2), 6);
    }

    private static void putRefusesTapesThatAreNoKey() {
        MomentTree tree = new MomentTree();
        refused(tree, 0, 0, 0);
        tree.feed(0, 0, 0, 0, 0);
        tree.feed(0, 0, 0, 0, 0);
        tree.feed(0, 0, 0, 0, 0);
        refused(tree, 0, 0, 0);
        Check.due("a tape of 60 stays", Check.tapeLength(tree), 60);
        tree.end(41);
        refused(tree, 0, 0, 0);
        Check.due("a tape of 41 stays", Check.tapeLength(tree), 41);
        Check.due("no version comes", tree.count(), 0);
        tree.end(40);
        Check.due("40 are a key", tree.put(0, 0, 0), 1);
    }

    private static void putRefusesMoreThanAHundredSixty() {
        MomentTree tree = new MomentTree();
        for (int i = 0; i < 160; i++) {
            tree.feed(i * 37 % 160, 0, 0, 0, 0);
            Check.due("put of 160", tree.put(3, i, 1), i + 1);
        }
        tree.first();
        tree.feed(160, 0, 0, 0, 0);
        Check.dueThrow("a key more", IllegalStateException.class, () -> tree.put(3, 0, 0));
        Check.due("the tape is empty then", Check.tapeLength(tree), 0);
        Check.due("current stays", tree.current(1), 0);
        tree.feed(5, 0, 0, 0, 0);
        Check.dueThrow("a moment more", IllegalStateException.class, () -> tree.put(4, 0, 0));
        tree.feed(5, 0, 0, 0, 0);
        Check.dueThrow("wrong number first", IllegalArgumentException.class, () -> tree.put(4, -2, 0));
        Check.due("the tape stays then", tree.end(20), 20);
        Check.due("the same is changed", tree.put(3, 999, 2), 160);
        tree.feed(5, 0, 0, 0, 0);
        Check.due("its new place", tree.find(3), 999);
        Check.due("still 160", tree.count(), 160);
        Check.due("clear", tree.clear(), 160);
        Check.due("room again", Check.put(tree, "a", 4, 0, 0), 1);
    }
}
