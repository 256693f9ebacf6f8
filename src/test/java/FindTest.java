import java.util.NoSuchElementException;

/** Promise 5: find. */
public final class FindTest {
    public static void main(String[] args) {
        theTapeIsAKey();
        aTapeThatIsNoKeyIsRefused();
        theGreatestMomentNotAboveIsFound();
        theSameMomentIsNotAbove();
        anyMomentIsTaken();
        otherKeysAreNotFound();
        belowTheLeastMomentNoneIsFound();
        noneIsFoundWhereNoneIs();
        theFoundOneIsCurrent();
        aMissLeavesNoneCurrent();
        aMissLeavesNoneCurrentThoughAnotherOfTheKeyWas();
        eachOfAHundredSixtyIsFound();
        Check.finish();
    }

    private static MomentTree withThreeKeys() {
        MomentTree tree = new MomentTree();
        Check.put(tree, "ab", 10, 110, 1);
        Check.put(tree, "ab", 20, 120, 2);
        Check.put(tree, "ab", 30, 130, 3);
        Check.put(tree, "a", 15, 15, 4);
        Check.put(tree, "abc", 5, 205, 5);
        return tree;
    }

    private static void missed(String what, MomentTree tree, String key, int moment) {
        Check.dueThrow(what, NoSuchElementException.class, () -> Check.find(tree, key, moment));
    }

    /** "The TAPE: a KEY": the shortest and the longest. */
    private static void theTapeIsAKey() {
        MomentTree tree = new MomentTree();
        Check.put(tree, "\0", 1, 1, 1);
        Check.put(tree, Check.repeated('k', 39), 1, 39, 1);
        Check.put(tree, Check.repeated('k', 40), 1, 40, 1);
        Check.due("1 byte", Check.find(tree, "\0", 1), 1);
        Check.due("39 bytes", Check.find(tree, Check.repeated('k', 39), 1), 39);
        Check.due("40 bytes", Check.find(tree, Check.repeated('k', 40), 1), 40);
    }

    /** "The TAPE: a KEY": too short and too long. */
    private static void aTapeThatIsNoKeyIsRefused() {
        MomentTree tree = withThreeKeys();
        Check.dueThrow("empty tape", IllegalArgumentException.class, () -> tree.find(99));
        Check.write(tree, Check.repeated('k', 60));
        Check.dueThrow("tape of 60", IllegalArgumentException.class, () -> tree.find(99));
        tree.end(41);
        Check.dueThrow("tape of 41", IllegalArgumentException.class, () -> tree.find(99));
        Check.dueTape("tape of 41", tree, 41);
        tree.end(40);
        Check.dueThrow("40 are a key", NoSuchElementException.class, () -> tree.find(99));
    }

    /** "The VERSION of that KEY with the greatest MOMENT that is not above moment". */
    private static void theGreatestMomentNotAboveIsFound() {
        MomentTree tree = withThreeKeys();
        Check.due("at 11", Check.find(tree, "ab", 11), 110);
        Check.due("at 19", Check.find(tree, "ab", 19), 110);
        Check.due("at 21", Check.find(tree, "ab", 21), 120);
        Check.due("at 29", Check.find(tree, "ab", 29), 120);
        Check.due("at 31", Check.find(tree, "ab", 31), 130);
    }

    /** "not above moment". */
    private static void theSameMomentIsNotAbove() {
        MomentTree tree = withThreeKeys();
        Check.due("at 10", Check.find(tree, "ab", 10), 110);
        Check.due("at 20", Check.find(tree, "ab", 20), 120);
        Check.due("at 30", Check.find(tree, "ab", 30), 130);
    }

    /** "(any int)". */
    private static void anyMomentIsTaken() {
        MomentTree tree = withThreeKeys();
        Check.put(tree, "z", 0, 1, 1);
        Check.put(tree, "z", Integer.MAX_VALUE, 2, 1);
        Check.due("greatest", Check.find(tree, "z", Integer.MAX_VALUE), 2);
        Check.due("one below", Check.find(tree, "z", Integer.MAX_VALUE - 1), 1);
        Check.due("0", Check.find(tree, "z", 0), 1);
        missed("-1", tree, "z", -1);
        missed("one above the least", tree, "z", Integer.MIN_VALUE + 1);
        missed("least", tree, "z", Integer.MIN_VALUE);
        Check.due("greatest of a key without it", Check.find(tree, "ab", Integer.MAX_VALUE), 130);
    }

    /** "of that KEY": not of a beginning, of what goes on, or of a neighbour. */
    private static void otherKeysAreNotFound() {
        MomentTree tree = withThreeKeys();
        Check.due("the beginning", Check.find(tree, "a", 99), 15);
        Check.due("what goes on", Check.find(tree, "abc", 99), 205);
        missed("a key between", tree, "aa", 99);
        missed("a zero behind", tree, "ab\0", 99);
        missed("what would go on", tree, "abcd", 99);
        missed("before all", tree, "A", 99);
        missed("behind all", tree, "b", 99);
        missed("before all, a zero", tree, "\0", Integer.MAX_VALUE);
    }

    /** "there is none: NoSuchElementException": though the next key's version follows. */
    private static void belowTheLeastMomentNoneIsFound() {
        MomentTree tree = withThreeKeys();
        missed("ab at 9", tree, "ab", 9);
        missed("a at 14", tree, "a", 14);
        missed("the last key's at 4", tree, "abc", 4);
    }

    /** "there is none": no version at all. */
    private static void noneIsFoundWhereNoneIs() {
        MomentTree tree = new MomentTree();
        missed("new", tree, "a", 99);
        Check.put(tree, "a", 1, 1, 1);
        tree.clear();
        missed("cleared", tree, "a", 99);
    }

    /** "is CURRENT"; "Answers its PLACE." */
    private static void theFoundOneIsCurrent() {
        MomentTree tree = withThreeKeys();
        Check.due("its place", Check.find(tree, "ab", 25), 120);
        Check.due("its moment, not the one asked for", tree.current(0), 20);
        Check.due("the same place", tree.current(1), 120);
        Check.due("its size", tree.current(2), 2);
        Check.due("what is behind it", tree.next(), 110);
        Check.put(tree, "ab", 20, -1, 2);
        Check.due("place -1", Check.find(tree, "ab", 25), -1);
    }

    /** "and none is CURRENT". */
    private static void aMissLeavesNoneCurrent() {
        MomentTree tree = withThreeKeys();
        tree.first();
        missed("no such key", tree, "x", 99);
        Check.dueNoneCurrent("no such key", tree);
        Check.dueThrow("nor is one next", NoSuchElementException.class, tree::next);
        Check.due("the versions stay", tree.count(), 5);
    }

    /** The same: of the key that is current. */
    private static void aMissLeavesNoneCurrentThoughAnotherOfTheKeyWas() {
        MomentTree tree = withThreeKeys();
        Check.find(tree, "ab", 10);
        missed("below its least", tree, "ab", 9);
        Check.dueNoneCurrent("below its least", tree);
        Check.dueTape("below its least", tree, 0);
    }

    /** Of the document's beginning: "found ... however many there are". */
    private static void eachOfAHundredSixtyIsFound() {
        MomentTree tree = Check.full();
        for (int key = 0; key < 160; key += 2) {
            tree.feed(key, 0, 0, 0, 0);
            Check.due("key " + key, tree.find(4), key);
        }
        MomentTree again = Check.full();
        for (int key = 1; key < 160; key += 2) {
            again.feed(key, 0, 0, 0, 0);
            Check.due("key " + key, again.find(3), key);
        }
    }
}
