import java.util.NoSuchElementException;

/** Promise 6: seek; and the order of versions. */
public final class SeekTest {
    public static void main(String[] args) {
        seekTakesTheFirstNotBefore();
        seekBeyondPassesThatItself();
        seekWithAnEmptyTapeTakesTheFirst();
        seekThatMissesLeavesNoneCurrent();
        seekTakesAnyMoment();
        seekRefusesLongTapes();
        bytesAreOrderedFromZeroTo255();
        Check.finish();
    }

    private static MomentTree withKeys() {
        MomentTree tree = new MomentTree();
        Check.put(tree, "b", 10, 110, 1);
        Check.put(tree, "b", 20, 120, 1);
        Check.put(tree, "bb", 15, 215, 1);
        Check.put(tree, "d", 0, 300, 1);
        return tree;
    }

    private static void seekTakesTheFirstNotBefore() {
        MomentTree tree = withKeys();
        Check.due("itself", Check.seek(tree, "b", 20, false), 120);
        Check.due("seek empties the tape", Check.tapeLength(tree), 0);
        Check.due("it is current", tree.current(0), 20);
        Check.due("a moment above", Check.seek(tree, "b", 21, false), 120);
        Check.due("a moment between", Check.seek(tree, "b", 19, false), 110);
        Check.due("the last moment", Check.seek(tree, "b", 10, false), 110);
        Check.due("a moment below goes to the next key", Check.seek(tree, "b", 9, false), 215);
        Check.due("a key before", Check.seek(tree, "a", 0, false), 120);
        Check.due("a zero behind", Check.seek(tree, "b\0", 99, false), 215);
        Check.due("a key between", Check.seek(tree, "c", 99, false), 300);
        Check.due("a longer one between", Check.seek(tree, "bbb", 99, false), 300);
    }

    private static void seekBeyondPassesThatItself() {
        MomentTree tree = withKeys();
        Check.due("behind itself", Check.seek(tree, "b", 20, true), 110);
        Check.due("behind the key's last", Check.seek(tree, "b", 10, true), 215);
        Check.due("not there: the same as not beyond", Check.seek(tree, "b", 21, true), 120);
        Check.due("between", Check.seek(tree, "b", 15, true), 110);
        Check.due("to the last", Check.seek(tree, "bb", 15, true), 300);
        Check.dueThrow("behind the last", NoSuchElementException.class,
                () -> Check.seek(tree, "d", 0, true));
    }

    private static void seekWithAnEmptyTapeTakesTheFirst() {
        MomentTree tree = withKeys();
        Check.due("not beyond", tree.seek(0, false), 120);
        Check.due("beyond", tree.seek(0, true), 120);
        Check.due("least moment", tree.seek(Integer.MIN_VALUE, true), 120);
        Check.due("greatest moment", tree.seek(Integer.MAX_VALUE, false), 120);
        MomentTree none = new MomentTree();
        Check.dueThrow("no version", NoSuchElementException.class, () -> none.seek(0, false));
    }

    private static void seekThatMissesLeavesNoneCurrent() {
        MomentTree tree = withKeys();
        tree.first();
        Check.dueThrow("behind all", NoSuchElementException.class,
                () -> Check.seek(tree, "e", 99, false));
        Check.due("the tape is empty then", Check.tapeLength(tree), 0);
        Check.dueThrow("none is current then", NoSuchElementException.class, () -> tree.current(1));
        Check.due("the versions stay", tree.count(), 4);
    }

    private static void seekTakesAnyMoment() {
        MomentTree tree = withKeys();
        Check.put(tree, "b", Integer.MAX_VALUE, 1, 1);
        Check.due("greatest", Check.seek(tree, "b", Integer.MAX_VALUE, false), 1);
        Check.due("beyond the greatest", Check.seek(tree, "b", Integer.MAX_VALUE, true), 120);
        Check.due("below 0", Check.seek(tree, "b", -1, false), 215);
        Check.due("least", Check.seek(tree, "b", Integer.MIN_VALUE, false), 215);
        Check.due("least, beyond", Check.seek(tree, "b", Integer.MIN_VALUE, true), 215);
        Check.dueThrow("below the last", NoSuchElementException.class,
                () -> Check.seek(tree, "d", -1, false));
    }

    private static void seekRefusesLongTapes() {
        MomentTree tree = withKeys();
        tree.first();
        tree.feed(0, 0, 0, 0, 0);
        tree.feed(0, 0, 0, 0, 0);
        tree.feed(0, 0, 0, 0, 0);
        Check.dueThrow("60", IllegalArgumentException.class, () -> tree.seek(0, false));
        tree.end(41);
        Check.dueThrow("41", IllegalArgumentException.class, () -> tree.seek(0, true));
        Check.due("the tape stays", Check.tapeLength(tree), 41);
        Check.due("current stays", tree.current(1), 120);
        tree.next();
        tree.end(40);
        Check.due("40 are taken", tree.seek(0, true), 120);
    }

    private static void bytesAreOrderedFromZeroTo255() {
        MomentTree tree = new MomentTree();
        String[] keys = {"\u00ff\u00ff", "\u00ff", "\u0080", "\u007f\u00ff", "\u007f", "a\u0080", "a\0\0",
            "a\0", "a", "\0\0", "\0"};
        for (int i = 0; i < keys.length; i++) {
            Check.put(tree, keys[i], 3, keys.length - i, 1);
        }
        Check.due("first of bytes", tree.first(), 1);
        for (int i = 2; i <= keys.length; i++) {
            Check.due("next of bytes", tree.next(), i);
        }
        longKeysDifferInTheLastByte();
    }

    private static void longKeysDifferInTheLastByte() {
        MomentTree tree = new MomentTree();
        String most = Check.repeated('x', 39);
        Check.put(tree, most + "\u00fe", 1, 2, 1);
        Check.put(tree, most + "\u0001", 1, 1, 1);
        Check.put(tree, most, 0, 0, 1);
        Check.due("39 bytes first", tree.first(), 0);
        Check.due("then the lower last byte", tree.next(), 1);
        Check.due("then the higher", tree.next(), 2);
        Check.due("found by all 40", Check.find(tree, most + "\u0001", 1), 1);
    }
}
