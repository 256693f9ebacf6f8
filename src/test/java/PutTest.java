import java.util.NoSuchElementException;

/** Promise 4: put. */
public final class PutTest {
    public static void main(String[] args) {
        theTapeIsAKey();
        aTapeThatIsNoKeyIsRefused();
        momentsFromZeroOnAreTaken();
        momentsBelowZeroAreRefused();
        placesFromMinusOneOnAreTaken();
        placesBelowMinusOneAreRefused();
        sizesFromZeroToAThousandAreTaken();
        otherSizesAreRefused();
        aNewOneWithoutRoomIsRefused();
        aNewMomentWithoutRoomIsRefused();
        theOneThatIsThereNeedsNoRoom();
        thereIsRoomUpToTheLast();
        thereIsRoomAgainAfterClear();
        aNewOneHasThatPlaceAndSize();
        theOneThatIsThereHasThatPlaceAndSize();
        aLaterMomentIsANewOne();
        theCurrentOneStays();
        theCurrentOneStaysThoughItIsChanged();
        noneStaysCurrent();
        theKeyIsKeptApartFromTheTape();
        putAnswersHowMany();
        Check.finish();
    }

    private static void refused(String what, MomentTree tree, int moment, int place, int size) {
        Check.dueThrow(what, IllegalArgumentException.class, () -> tree.put(moment, place, size));
    }

    /** "The TAPE: a KEY": the shortest and the longest. */
    private static void theTapeIsAKey() {
        MomentTree tree = new MomentTree();
        Check.due("1 byte", Check.put(tree, "a", 0, 1, 0), 1);
        Check.due("a byte of zero", Check.put(tree, "\0", 0, 2, 0), 2);
        Check.due("40 bytes", Check.put(tree, Check.repeated('z', 40), 0, 3, 0), 3);
        Check.due("39 bytes", Check.put(tree, Check.repeated('z', 39), 0, 4, 0), 4);
        Check.due("zero", tree.first(), 2);
        Check.due("a", tree.next(), 1);
        Check.due("39", tree.next(), 4);
        Check.due("40", tree.next(), 3);
    }

    /** "The TAPE: a KEY": too short and too long. */
    private static void aTapeThatIsNoKeyIsRefused() {
        MomentTree tree = new MomentTree();
        refused("an empty tape", tree, 0, 0, 0);
        Check.write(tree, Check.repeated('k', 60));
        refused("a tape of 60", tree, 0, 0, 0);
        tree.end(41);
        refused("a tape of 41", tree, 0, 0, 0);
        Check.dueTape("a tape of 41", tree, 41);
        Check.due("no version comes", tree.count(), 0);
        tree.end(40);
        Check.due("40 are a key", tree.put(0, 0, 0), 1);
        refused("empty again", tree, 0, 0, 0);
    }

    /** "moment 0 or more". */
    private static void momentsFromZeroOnAreTaken() {
        MomentTree tree = new MomentTree();
        Check.due("0", Check.put(tree, "k", 0, 1, 1), 1);
        Check.due("greatest", Check.put(tree, "k", Integer.MAX_VALUE, 2, 1), 2);
        Check.due("greatest first", tree.first(), 2);
        Check.due("greatest moment", tree.current(0), Integer.MAX_VALUE);
        Check.due("0 last", tree.next(), 1);
        Check.due("moment 0", tree.current(0), 0);
    }

    /** "moment 0 or more": too small. */
    private static void momentsBelowZeroAreRefused() {
        MomentTree tree = new MomentTree();
        Check.write(tree, "k");
        refused("moment -1", tree, -1, 0, 0);
        refused("least moment", tree, Integer.MIN_VALUE, 0, 0);
        Check.due("no version comes", tree.count(), 0);
    }

    /** "place -1 or more". */
    private static void placesFromMinusOneOnAreTaken() {
        MomentTree tree = new MomentTree();
        Check.put(tree, "k", 3, -1, 1);
        Check.put(tree, "k", 2, 0, 1);
        Check.put(tree, "k", 1, Integer.MAX_VALUE, 1);
        Check.due("-1", tree.first(), -1);
        Check.due("-1 is told", tree.current(1), -1);
        Check.due("0", tree.next(), 0);
        Check.due("greatest", tree.next(), Integer.MAX_VALUE);
    }

    /** "place -1 or more": too small. */
    private static void placesBelowMinusOneAreRefused() {
        MomentTree tree = new MomentTree();
        Check.write(tree, "k");
        refused("place -2", tree, 0, -2, 0);
        refused("least place", tree, 0, Integer.MIN_VALUE, 0);
        Check.due("no version comes", tree.count(), 0);
    }

    /** "size 0 .. 1000". */
    private static void sizesFromZeroToAThousandAreTaken() {
        MomentTree tree = new MomentTree();
        int[] sizes = {0, 1, 999, 1000};
        for (int size : sizes) {
            Check.put(tree, "k", 5, 5, size);
            tree.first();
            Check.due("size", tree.current(2), size);
        }
    }

    /** "size 0 .. 1000": too small and too large. */
    private static void otherSizesAreRefused() {
        MomentTree tree = new MomentTree();
        Check.write(tree, "k");
        refused("size -1", tree, 0, 0, -1);
        refused("least size", tree, 0, 0, Integer.MIN_VALUE);
        refused("size 1001", tree, 0, 0, 1001);
        refused("greatest size", tree, 0, 0, Integer.MAX_VALUE);
        Check.due("no version comes", tree.count(), 0);
    }

    /** "There is no VERSION of that KEY and MOMENT, and there are 160: IllegalStateException". */
    private static void aNewOneWithoutRoomIsRefused() {
        MomentTree tree = Check.full();
        tree.feed(160, 0, 0, 0, 0);
        Check.dueThrow("behind all", IllegalStateException.class, () -> tree.put(3, 0, 0));
        Check.dueTape("behind all", tree, 0);
        Check.dueThrow("before all", IllegalStateException.class, () -> Check.put(tree, "\0", 3, 0, 0));
        Check.dueTape("before all", tree, 0);
        Check.due("count", tree.count(), 160);
    }

    /** "of that KEY and MOMENT": the key alone is not enough, nor is a later version of it. */
    private static void aNewMomentWithoutRoomIsRefused() {
        MomentTree tree = Check.full();
        for (int moment : new int[] {0, 2, 4, Integer.MAX_VALUE}) {
            tree.feed(5, 0, 0, 0, 0);
            Check.dueThrow("moment " + moment, IllegalStateException.class,
                    () -> tree.put(moment, 0, 0));
            Check.dueTape("moment " + moment, tree, 0);
        }
        tree.feed(5, 0, 0, 0, 0);
        Check.due("the one that is there stays", tree.find(Integer.MAX_VALUE), 5);
        Check.due("its moment", tree.current(0), 3);
        Check.due("its size", tree.current(2), 1);
    }

    /** The same: what is there is changed where there are 160. */
    private static void theOneThatIsThereNeedsNoRoom() {
        MomentTree tree = Check.full();
        for (int key : new int[] {0, 5, 159}) {
            tree.feed(key, 0, 0, 0, 0);
            Check.due("the same", tree.put(3, 1000 + key, 2), 160);
            tree.feed(key, 0, 0, 0, 0);
            Check.due("its new place", tree.find(3), 1000 + key);
            Check.due("its new size", tree.current(2), 2);
        }
        Check.due("count", tree.count(), 160);
    }

    /** "and there are 160": not one earlier. */
    private static void thereIsRoomUpToTheLast() {
        MomentTree tree = new MomentTree();
        for (int i = 0; i < 160; i++) {
            tree.feed(7, 7, 7, 7, 7);
            Check.due("put", tree.put(i, i, 1), i + 1);
        }
        tree.feed(7, 7, 7, 7, 7);
        Check.dueThrow("one more", IllegalStateException.class, () -> tree.put(160, 0, 0));
    }

    /** "There are at most 160": at one time. */
    private static void thereIsRoomAgainAfterClear() {
        MomentTree tree = Check.full();
        tree.clear();
        tree.feed(5, 0, 0, 0, 0);
        Check.due("one that was there", tree.put(3, 0, 0), 1);
        tree.feed(500, 0, 0, 0, 0);
        Check.due("one that was not", tree.put(3, 0, 0), 2);
    }

    /** "It has that PLACE and SIZE (a new one". */
    private static void aNewOneHasThatPlaceAndSize() {
        MomentTree tree = new MomentTree();
        Check.put(tree, "k", 7, 70, 700);
        Check.due("its place", tree.first(), 70);
        Check.due("place", tree.current(1), 70);
        Check.due("size", tree.current(2), 700);
    }

    /** "or the one that is there)". */
    private static void theOneThatIsThereHasThatPlaceAndSize() {
        MomentTree tree = new MomentTree();
        Check.put(tree, "k", 7, 70, 700);
        Check.put(tree, "k", 6, 60, 600);
        Check.put(tree, "l", 7, 71, 701);
        Check.put(tree, "k", 7, -1, 0);
        Check.due("new place", Check.find(tree, "k", 7), -1);
        Check.due("new size", tree.current(2), 0);
        Check.due("its moment stays", tree.current(0), 7);
        Check.due("another moment's place stays", Check.find(tree, "k", 6), 60);
        Check.due("another moment's size stays", tree.current(2), 600);
        Check.due("another key's place stays", Check.find(tree, "l", 7), 71);
        Check.due("another key's size stays", tree.current(2), 701);
    }

    /** "There is no VERSION of that KEY and MOMENT": then the earlier one stays too. */
    private static void aLaterMomentIsANewOne() {
        MomentTree tree = new MomentTree();
        Check.put(tree, "k", 1, 10, 1);
        Check.due("later", Check.put(tree, "k", 2, 20, 2), 2);
        Check.due("earlier", Check.put(tree, "k", 0, 0, 3), 3);
        Check.due("versions", Told.versionsOf(tree),
                "3; 2 20 2 1 6b00000000000000; 1 10 1 1 6b00000000000000; 0 0 3 1 6b00000000000000.");
    }

    /** "which VERSION is CURRENT does not change": though puts before and behind turn the tree. */
    private static void theCurrentOneStays() {
        MomentTree tree = new MomentTree();
        Check.put(tree, "m", 5, 1, 2);
        tree.first();
        for (int i = 0; i < 20; i++) {
            Check.put(tree, "m" + (char) ('a' + i), 5, 100 + i, 3);
            Check.put(tree, "" + (char) ('a' + i), 9, 200 + i, 4);
            Check.due("moment", tree.current(0), 5);
            Check.due("place", tree.current(1), 1);
            Check.due("size", tree.current(2), 2);
            Check.due("key", tree.word(0), 0x6d00000000000000L);
        }
        Check.put(tree, "m", 4, 66, 6);
        Check.due("the new one behind it is next", tree.next(), 66);
    }

    /** The same: the one that is current, or another one, is changed. */
    private static void theCurrentOneStaysThoughItIsChanged() {
        MomentTree tree = new MomentTree();
        Check.put(tree, "m", 5, 1, 2);
        Check.put(tree, "n", 5, 3, 4);
        tree.first();
        Check.put(tree, "n", 5, 33, 44);
        Check.due("another one is changed", tree.current(1), 1);
        Check.put(tree, "m", 5, 11, 22);
        Check.due("itself is changed", tree.current(1), 11);
        Check.due("its size", tree.current(2), 22);
        Check.due("what is behind it", tree.next(), 33);
    }

    /** The same: none. */
    private static void noneStaysCurrent() {
        MomentTree tree = new MomentTree();
        Check.put(tree, "m", 5, 1, 2);
        Check.dueNoneCurrent("a new one", tree);
        Check.put(tree, "m", 5, 3, 4);
        Check.dueNoneCurrent("the one that is there", tree);
        tree.first();
        Check.dueThrow("behind the last", NoSuchElementException.class, tree::next);
        Check.put(tree, "z", 5, 5, 6);
        Check.dueNoneCurrent("a new last one", tree);
    }

    private static void theKeyIsKeptApartFromTheTape() {
        MomentTree tree = new MomentTree();
        Check.put(tree, "abcd", 5, 1, 2);
        tree.first();
        Check.write(tree, "zzzz");
        Check.due("written over", tree.word(0), 0x6162636400000000L);
        tree.end(1);
        Check.due("ended", tree.current(3), 4);
    }

    /** "Answers how many VERSIONS there are." */
    private static void putAnswersHowMany() {
        MomentTree tree = new MomentTree();
        Check.due("first", Check.put(tree, "b", 1, 10, 1), 1);
        Check.due("another moment", Check.put(tree, "b", 2, 20, 1), 2);
        Check.due("a longer key", Check.put(tree, "ba", 2, 30, 1), 3);
        Check.due("a key with a zero behind", Check.put(tree, "b\0", 2, 40, 1), 4);
        Check.due("the same again", Check.put(tree, "b", 2, 50, 1), 4);
        Check.due("the first again", Check.put(tree, "b", 1, 10, 1), 4);
        Check.due("one more", Check.put(tree, "a", 1, 60, 1), 5);
    }
}
