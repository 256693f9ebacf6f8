import java.util.NoSuchElementException;

/** Promises 9 and 10: current and word. */
public final class CurrentTest {
    public static void main(String[] args) {
        currentTellsEachNumber();
        currentRefusesOtherNumbers();
        wordTellsTheKey();
        wordRefusesOtherPlaces();
        Check.finish();
    }

    private static void currentTellsEachNumber() {
        MomentTree tree = new MomentTree();
        Check.put(tree, "seven77", 11, 22, 33);
        Check.put(tree, "z", 44, 55, 66);
        Check.find(tree, "seven77", 11);
        Check.write(tree, "dd");
        Check.due("moment", tree.current(0), 11);
        Check.due("place", tree.current(1), 22);
        Check.due("size", tree.current(2), 33);
        Check.due("length", tree.current(3), 7);
        Check.due("the tape stays", Check.tapeLength(tree), 2);
        Check.due("it stays current", tree.next(), 55);
    }

    private static void currentRefusesOtherNumbers() {
        MomentTree tree = new MomentTree();
        int[] wrong = {-1, 4, Integer.MIN_VALUE, Integer.MAX_VALUE};
        for (int what : wrong) {
            Check.dueThrow("wrong number first", IllegalArgumentException.class, () -> tree.current(what));
        }
        for (int what = 0; what < 4; what++) {
            int told = what;
            Check.dueThrow("none is current", NoSuchElementException.class, () -> tree.current(told));
        }
        Check.put(tree, "k", 1, 2, 3);
        tree.first();
        for (int what : wrong) {
            Check.dueThrow("wrong number", IllegalArgumentException.class, () -> tree.current(what));
        }
        Check.due("it stays current", tree.current(1), 2);
    }

    private static void wordTellsTheKey() {
        MomentTree tree = new MomentTree();
        byte[] key = new byte[40];
        for (int i = 0; i < key.length; i++) {
            key[i] = (byte) (i * 6 + 21);
        }
        Check.write(tree, key);
        tree.put(1, 2, 3);
        tree.first();
        tree.feed(-1, -1, -1, -1, -1);
        for (int i = 0; i < key.length; i++) {
            long want = 0;
            for (int at = i; at < i + 8; at++) {
                want = want * 256 + (at < 40 ? Byte.toUnsignedInt(key[at]) : 0);
            }
            Check.due("word " + i, tree.word(i), want);
        }
        Check.due("the tape stays", Check.tapeLength(tree), 20);
        wordsOfAShortKey();
    }

    private static void wordsOfAShortKey() {
        MomentTree tree = new MomentTree();
        tree.feed(-1, -1, -1, -1, -1);
        tree.end(9);
        tree.put(1, 2, 3);
        tree.first();
        Check.due("8 bytes of 255", tree.word(0), -1L);
        Check.due("8 bytes of 255 at the end", tree.word(1), -1L);
        Check.due("a zero behind the end", tree.word(2), -256L);
        Check.due("zeros behind the last", tree.word(8), 0xff00000000000000L);
    }

    private static void wordRefusesOtherPlaces() {
        MomentTree tree = new MomentTree();
        Check.dueThrow("none is current first", NoSuchElementException.class, () -> tree.word(-1));
        Check.dueThrow("none is current", NoSuchElementException.class, () -> tree.word(0));
        Check.put(tree, "abc", 1, 2, 3);
        tree.first();
        int[] wrong = {-1, 3, 4, 40, Integer.MIN_VALUE, Integer.MAX_VALUE};
        for (int i : wrong) {
            Check.dueThrow("word " + i, IndexOutOfBoundsException.class, () -> tree.word(i));
        }
        Check.due("the last of them", tree.word(2), 0x6300000000000000L);
        Check.put(tree, "b" + Check.repeated('b', 39), 1, 2, 3);
        tree.next();
        Check.dueThrow("40 of 40", IndexOutOfBoundsException.class, () -> tree.word(40));
        Check.due("39 of 40", tree.word(39), 0x6200000000000000L);
    }
}
