import java.util.NoSuchElementException;

/** Promise 6: seek. */
public final class SeekTest {
    public static void main(String[] args) {
        upToFortyBytesAreTaken();
        moreThanFortyBytesAreRefused();
        anEmptyTapeComesBeforeAllKeys();
        thatItselfIsNotBefore();
        otherMomentsOfTheKeyAreInOrder();
        otherKeysAreInOrder();
        beyondPassesThatItself();
        beyondIsTheSameWhereThatItselfIsNot();
        anyMomentIsTaken();
        behindAllThereIsNone();
        beyondTheLastThereIsNone();
        noneIsSoughtWhereNoneIs();
        theSoughtOneIsCurrent();
        aMissLeavesNoneCurrent();
        eachOfAHundredSixtyIsGoneTo();
        Check.finish();
    }

    private static MomentTree withKeys() {
        MomentTree tree = new MomentTree();
        Check.put(tree, "b", 10, 110, 1);
        Check.put(tree, "b", 20, 120, 2);
        Check.put(tree, "bb", 15, 215, 3);
        Check.put(tree, "d", 0, 300, 4);
        return tree;
    }

    private static void missed(String what, MomentTree tree, String key, int moment, boolean beyond) {
        Check.dueThrow(what, NoSuchElementException.class, () -> Check.seek(tree, key, moment, beyond));
    }

    /** "The TAPE: 0 .. 40 bytes." */
    private static void upToFortyBytesAreTaken() {
        MomentTree tree = new MomentTree();
        Check.put(tree, Check.repeated('k', 40), 1, 40, 1);
        for (int length = 0; length <= 40; length++) {
            Check.due("seek of " + length, Check.seek(tree, Check.repeated('k', length), 1, false), 40);
        }
    }

    /** "0 .. 40 bytes": too many. */
    private static void moreThanFortyBytesAreRefused() {
        for (int length = 41; length <= 60; length++) {
            MomentTree tree = withKeys();
            Check.write(tree, Check.repeated('\0', length));
            Check.dueThrow("seek of " + length, IllegalArgumentException.class,
                    () -> tree.seek(0, false));
            Check.dueThrow("seek beyond, of " + length, IllegalArgumentException.class,
                    () -> tree.seek(0, true));
            Check.dueTape("seek of " + length, tree, length);
            tree.end(40);
            Check.due("40 are taken", tree.seek(0, true), 120);
        }
    }

    /** "0 .. 40 bytes": none, which would be the beginning of every key. */
    private static void anEmptyTapeComesBeforeAllKeys() {
        MomentTree tree = withKeys();
        Check.put(tree, "\0", 0, 1, 1);
        for (int moment : new int[] {Integer.MIN_VALUE, -1, 0, 1, Integer.MAX_VALUE}) {
            Check.due("not beyond, " + moment, tree.seek(moment, false), 1);
            Check.due("beyond, " + moment, tree.seek(moment, true), 1);
        }
    }

    /** "The first VERSION that is not before one of them as KEY with that MOMENT would be". */
    private static void thatItselfIsNotBefore() {
        MomentTree tree = withKeys();
        Check.due("b 20", Check.seek(tree, "b", 20, false), 120);
        Check.due("b 10", Check.seek(tree, "b", 10, false), 110);
        Check.due("bb 15", Check.seek(tree, "bb", 15, false), 215);
        Check.due("d 0", Check.seek(tree, "d", 0, false), 300);
    }

    /** The same: moments above, between and below those of the key. */
    private static void otherMomentsOfTheKeyAreInOrder() {
        MomentTree tree = withKeys();
        Check.due("above", Check.seek(tree, "b", 21, false), 120);
        Check.due("between", Check.seek(tree, "b", 19, false), 110);
        Check.due("between, lower", Check.seek(tree, "b", 11, false), 110);
        Check.due("below, so the next key", Check.seek(tree, "b", 9, false), 215);
        Check.due("of another key, above", Check.seek(tree, "bb", 16, false), 215);
        Check.due("of another key, below", Check.seek(tree, "bb", 14, false), 300);
    }

    /** The same: keys before, between, and with others as beginnings. */
    private static void otherKeysAreInOrder() {
        MomentTree tree = withKeys();
        Check.due("before all", Check.seek(tree, "a", 0, false), 120);
        Check.due("before all, longer", Check.seek(tree, "a" + Check.repeated('z', 39), 0, false), 120);
        Check.due("a zero behind", Check.seek(tree, "b\0", 99, false), 215);
        Check.due("longer, between", Check.seek(tree, "bbb", 99, false), 300);
        Check.due("shorter, between", Check.seek(tree, "c", 99, false), 300);
    }

    /** "(beyond: and not that itself)". */
    private static void beyondPassesThatItself() {
        MomentTree tree = withKeys();
        Check.due("b 20", Check.seek(tree, "b", 20, true), 110);
        Check.due("b 10", Check.seek(tree, "b", 10, true), 215);
        Check.due("bb 15", Check.seek(tree, "bb", 15, true), 300);
    }

    /** "not that itself": nothing else is passed. */
    private static void beyondIsTheSameWhereThatItselfIsNot() {
        MomentTree tree = withKeys();
        Check.due("above", Check.seek(tree, "b", 21, true), 120);
        Check.due("between", Check.seek(tree, "b", 15, true), 110);
        Check.due("below", Check.seek(tree, "b", 9, true), 215);
        Check.due("another key", Check.seek(tree, "c", 0, true), 300);
        Check.due("the same moment, another key", Check.seek(tree, "ba", 15, true), 215);
    }

    /** The document names no range for this moment: no int is out of it. */
    private static void anyMomentIsTaken() {
        MomentTree tree = withKeys();
        Check.put(tree, "b", Integer.MAX_VALUE, 1, 1);
        Check.due("greatest", Check.seek(tree, "b", Integer.MAX_VALUE, false), 1);
        Check.due("beyond the greatest", Check.seek(tree, "b", Integer.MAX_VALUE, true), 120);
        Check.due("below 0", Check.seek(tree, "b", -1, false), 215);
        Check.due("least", Check.seek(tree, "b", Integer.MIN_VALUE, false), 215);
        Check.due("beyond the least", Check.seek(tree, "b", Integer.MIN_VALUE, true), 215);
    }

    /** "there is none: NoSuchElementException". */
    private static void behindAllThereIsNone() {
        MomentTree tree = withKeys();
        missed("a key behind", tree, "e", Integer.MAX_VALUE, false);
        missed("the last key with a zero", tree, "d\0", Integer.MAX_VALUE, false);
        missed("40 bytes of 255", tree, Check.repeated('\u00ff', 40), 0, false);
        missed("the last key, below its moment", tree, "d", -1, false);
    }

    /** The same: "beyond". */
    private static void beyondTheLastThereIsNone() {
        MomentTree tree = withKeys();
        Check.due("the last itself", Check.seek(tree, "d", 0, false), 300);
        missed("beyond it", tree, "d", 0, true);
    }

    /** The same: no version at all. */
    private static void noneIsSoughtWhereNoneIs() {
        MomentTree tree = new MomentTree();
        missed("new, an empty tape", tree, "", 0, false);
        missed("new, an empty tape, beyond", tree, "", 0, true);
        missed("new", tree, "a", 0, false);
        Check.put(tree, "a", 0, 0, 0);
        tree.clear();
        missed("cleared", tree, "a", 0, false);
    }

    /** "is CURRENT"; "Answers its PLACE." */
    private static void theSoughtOneIsCurrent() {
        MomentTree tree = withKeys();
        Check.due("its place", Check.seek(tree, "b", 15, false), 110);
        Check.due("its moment", tree.current(0), 10);
        Check.due("the same place", tree.current(1), 110);
        Check.due("its size", tree.current(2), 1);
        Check.due("what is behind it", tree.next(), 215);
        Check.put(tree, "b", 10, -1, 1);
        Check.due("place -1", Check.seek(tree, "b", 15, false), -1);
    }

    /** "and none is CURRENT". */
    private static void aMissLeavesNoneCurrent() {
        for (boolean beyond : new boolean[] {false, true}) {
            MomentTree tree = withKeys();
            tree.first();
            missed("behind all", tree, "e", 99, beyond);
            Check.dueNoneCurrent("behind all", tree);
            Check.dueThrow("nor is one next", NoSuchElementException.class, tree::next);
            Check.due("the versions stay", tree.count(), 4);
        }
    }

    /** Of the document's beginning: "gone to ... however many there are". */
    private static void eachOfAHundredSixtyIsGoneTo() {
        MomentTree tree = Check.full();
        for (int key = 0; key < 159; key += 2) {
            tree.feed(key, 0, 0, 0, 0);
            Check.due("beyond key " + key, tree.seek(3, true), key + 1);
        }
        MomentTree again = Check.full();
        for (int key = 0; key < 159; key += 2) {
            again.feed(key, 0, 0, 0, 1);
            Check.due("behind key " + key, again.seek(3, false), key + 1);
        }
    }
}
