import java.util.NoSuchElementException;

/** "Terms", what is thrown, in which order, and what it changes. */
public final class ThrowTest {
    private static final Class<IllegalArgumentException> ILLEGAL = IllegalArgumentException.class;
    private static final Class<NoSuchElementException> NONE = NoSuchElementException.class;
    private static final Class<IndexOutOfBoundsException> OUTSIDE = IndexOutOfBoundsException.class;

    public static void main(String[] args) {
        illegalNumbersComeBeforeAFullTree();
        illegalTapesComeBeforeAFullTree();
        illegalTapesComeBeforeAMissingVersion();
        illegalNumbersComeBeforeNoCurrentOne();
        noCurrentOneComesBeforeAnOutsideByte();
        feedThatThrowsChangesNothing();
        endThatThrowsChangesNothing();
        putWithIllegalNumbersChangesNothing();
        putWithIllegalTapesChangesNothing();
        putWithoutRoomEmptiesTheTapeAlone();
        putOfIllegalNumbersWithoutRoomChangesNothing();
        findWithIllegalTapesChangesNothing();
        findThatMissesChangesWhatIsSaid();
        seekWithIllegalTapesChangesNothing();
        seekThatMissesChangesWhatIsSaid();
        nextThatMissesChangesWhatIsSaid();
        nextWithoutCurrentChangesNothing();
        firstThatThrowsChangesNothing();
        currentThatThrowsChangesNothing();
        wordThatThrowsChangesNothing();
        Check.finish();
    }

    /** Four versions, the second one current, and a tape of that many bytes. */
    private static MomentTree withTape(int length) {
        MomentTree tree = withoutCurrent(0);
        Check.seek(tree, "b", 3, false);
        Check.write(tree, Check.repeated('b', length));
        return tree;
    }

    private static MomentTree withoutCurrent(int length) {
        MomentTree tree = new MomentTree();
        Check.put(tree, "b", 3, 203, 23);
        Check.put(tree, "c", 0, 300, 30);
        Check.put(tree, "a", 9, 109, 19);
        Check.put(tree, "b", 2, 202, 22);
        Check.write(tree, Check.repeated('b', length));
        return tree;
    }

    private static MomentTree fullWithTape() {
        MomentTree tree = Check.full();
        tree.first();
        tree.feed(0, -1, 0, 0, 0);
        return tree;
    }

    /** "in this order: IllegalArgumentException: a number out of range": put where there are 160. */
    private static void illegalNumbersComeBeforeAFullTree() {
        MomentTree tree = fullWithTape();
        Check.dueThrow("moment", ILLEGAL, () -> tree.put(-1, 0, 0));
        Check.dueThrow("place", ILLEGAL, () -> tree.put(0, -2, 0));
        Check.dueThrow("low size", ILLEGAL, () -> tree.put(0, 0, -1));
        Check.dueThrow("high size", ILLEGAL, () -> tree.put(0, 0, 1001));
        Check.dueThrow("then the room", IllegalStateException.class, () -> tree.put(0, 0, 0));
    }

    /** "or a TAPE that is not of the form told": put where there are 160. */
    private static void illegalTapesComeBeforeAFullTree() {
        MomentTree tree = fullWithTape();
        tree.end(0);
        Check.dueThrow("empty tape", ILLEGAL, () -> tree.put(0, 0, 0));
        Check.write(tree, Check.repeated('b', 41));
        Check.dueThrow("tape of 41", ILLEGAL, () -> tree.put(0, 0, 0));
        tree.end(40);
        Check.dueThrow("then the room", IllegalStateException.class, () -> tree.put(0, 0, 0));
    }

    /** "or a TAPE that is not of the form told": find and seek where there is no version. */
    private static void illegalTapesComeBeforeAMissingVersion() {
        MomentTree tree = new MomentTree();
        Check.dueThrow("find, empty tape", ILLEGAL, () -> tree.find(0));
        Check.write(tree, Check.repeated('b', 41));
        Check.dueThrow("find, tape of 41", ILLEGAL, () -> tree.find(0));
        Check.dueThrow("seek, tape of 41", ILLEGAL, () -> tree.seek(0, false));
        tree.end(40);
        Check.dueThrow("then none is found", NONE, () -> tree.find(0));
        Check.dueThrow("then none is sought", NONE, () -> tree.seek(0, false));
    }

    /** "IllegalArgumentException: a number out of range", "then as the call says": current. */
    private static void illegalNumbersComeBeforeNoCurrentOne() {
        MomentTree tree = withoutCurrent(0);
        Check.dueThrow("below", ILLEGAL, () -> tree.current(-1));
        Check.dueThrow("above", ILLEGAL, () -> tree.current(4));
        Check.dueThrow("then none is current", NONE, () -> tree.current(3));
    }

    /** "then as the call says": word names the current one first, then i. */
    private static void noCurrentOneComesBeforeAnOutsideByte() {
        MomentTree tree = withoutCurrent(0);
        Check.dueThrow("below", NONE, () -> tree.word(-1));
        Check.dueThrow("above", NONE, () -> tree.word(40));
        tree.first();
        Check.dueThrow("then below", OUTSIDE, () -> tree.word(-1));
        Check.dueThrow("then above", OUTSIDE, () -> tree.word(40));
    }

    /** "A call that throws changes nothing", here and below. */
    private static void feedThatThrowsChangesNothing() {
        for (int length : new int[] {41, 50, 60}) {
            Check.changesNothing("feed from " + length, () -> withTape(length), OUTSIDE,
                    tree -> tree.feed(-1, -1, -1, -1, -1));
        }
    }

    private static void endThatThrowsChangesNothing() {
        for (int n : new int[] {-1, 8, 60, Integer.MIN_VALUE, Integer.MAX_VALUE}) {
            Check.changesNothing("end at " + n, () -> withTape(7), ILLEGAL, tree -> tree.end(n));
        }
    }

    private static void putWithIllegalNumbersChangesNothing() {
        putChangesNothing("a new one, moment", 2, -1, 0, 0);
        putChangesNothing("a new one, place", 2, 2, -2, 0);
        putChangesNothing("a new one, low size", 2, 2, 0, -1);
        putChangesNothing("a new one, high size", 2, 2, 0, 1001);
        putChangesNothing("one that is there, place", 1, 2, -2, 0);
        putChangesNothing("one that is there, low size", 1, 2, 0, -1);
        putChangesNothing("one that is there, high size", 1, 2, 0, 1001);
        putChangesNothing("the current one, place", 1, 3, -2, 0);
        putChangesNothing("the current one, high size", 1, 3, 0, 1001);
    }

    private static void putWithIllegalTapesChangesNothing() {
        putChangesNothing("empty tape", 0, 1, 1, 1);
        putChangesNothing("tape of 41", 41, 1, 1, 1);
        putChangesNothing("tape of 60", 60, 1, 1, 1);
    }

    private static void putChangesNothing(String what, int length, int moment, int place, int size) {
        Check.changesNothing("put, " + what, () -> withTape(length), ILLEGAL,
                tree -> tree.put(moment, place, size));
    }

    /** "but as said": "IllegalStateException (the TAPE is empty then)". */
    private static void putWithoutRoomEmptiesTheTapeAlone() {
        Told before = Told.of(ThrowTest::fullWithTape);
        Told after = Check.afterThrow("put without room", ThrowTest::fullWithTape,
                IllegalStateException.class, tree -> tree.put(0, 999, 9));
        Check.due("put without room, tape", after.tape(), "empty");
        Check.due("put without room, current", after.current(), before.current());
        Check.due("put without room, versions", after.versions(), before.versions());
    }

    private static void putOfIllegalNumbersWithoutRoomChangesNothing() {
        Check.changesNothing("put of a wrong size without room", ThrowTest::fullWithTape, ILLEGAL,
                tree -> tree.put(0, 999, 1001));
    }

    private static void findWithIllegalTapesChangesNothing() {
        for (int length : new int[] {0, 41, 60}) {
            Check.changesNothing("find of " + length, () -> withTape(length), ILLEGAL,
                    tree -> tree.find(99));
        }
    }

    /** "but as said": "and none is CURRENT", and the tape, which was read, is empty. */
    private static void findThatMissesChangesWhatIsSaid() {
        missed("find of no key that is there", 2, tree -> tree.find(99));
        missed("find below the least moment", 1, tree -> tree.find(1));
    }

    private static void seekWithIllegalTapesChangesNothing() {
        for (int length : new int[] {41, 60}) {
            Check.changesNothing("seek of " + length, () -> withTape(length), ILLEGAL,
                    tree -> tree.seek(0, true));
        }
    }

    private static void seekThatMissesChangesWhatIsSaid() {
        missed("seek behind all", 0, tree -> Check.seek(tree, "d", 0, false));
        missed("seek beyond the last", 0, tree -> Check.seek(tree, "c", 0, true));
    }

    private static void missed(String what, int length, Check.CallOn call) {
        Told before = Told.of(() -> withTape(length));
        Told after = Check.afterThrow(what, () -> withTape(length), NONE, call);
        Check.due(what + ", tape", after.tape(), "empty");
        Check.due(what + ", current", after.current(), "none");
        Check.due(what + ", versions", after.versions(), before.versions());
    }

    private static MomentTree atTheLast() {
        MomentTree tree = withoutCurrent(0);
        Check.find(tree, "c", 0);
        Check.write(tree, "bb");
        return tree;
    }

    /** "but as said": "and none is". */
    private static void nextThatMissesChangesWhatIsSaid() {
        Told before = Told.of(ThrowTest::atTheLast);
        Told after = Check.afterThrow("next", ThrowTest::atTheLast, NONE, MomentTree::next);
        Check.due("next behind the last, tape", after.tape(), before.tape());
        Check.due("next behind the last, current", after.current(), "none");
        Check.due("next behind the last, versions", after.versions(), before.versions());
    }

    private static void nextWithoutCurrentChangesNothing() {
        Check.changesNothing("next", () -> withoutCurrent(7), NONE, MomentTree::next);
    }

    private static MomentTree cleared() {
        MomentTree tree = withTape(7);
        tree.clear();
        return tree;
    }

    private static void firstThatThrowsChangesNothing() {
        Check.changesNothing("first", ThrowTest::cleared, NONE, MomentTree::first);
    }

    private static void currentThatThrowsChangesNothing() {
        Check.changesNothing("current, none is", () -> withoutCurrent(7), NONE, tree -> tree.current(0));
        Check.changesNothing("current(-1)", () -> withTape(7), ILLEGAL, tree -> tree.current(-1));
        Check.changesNothing("current(4)", () -> withTape(7), ILLEGAL, tree -> tree.current(4));
    }

    private static void wordThatThrowsChangesNothing() {
        Check.changesNothing("word, none is", () -> withoutCurrent(7), NONE, tree -> tree.word(0));
        Check.changesNothing("word(-1)", () -> withTape(7), OUTSIDE, tree -> tree.word(-1));
        Check.changesNothing("word(1) of 1", () -> withTape(7), OUTSIDE, tree -> tree.word(1));
    }
}
