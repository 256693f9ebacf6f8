import java.util.NoSuchElementException;

/** "Terms", what a version is and the order of versions. */
public final class OrderTest {
    public static void main(String[] args) {
        keysOfEachLengthAreKept();
        noKeyIsEmpty();
        noKeyIsLongerThanForty();
        numbersAreInts();
        everyByteHasItsPlaceInTheOrder();
        theFirstDifferentByteDecides();
        aDifferentByteDecidesBeforeTheLength();
        aBeginningComesBeforeWhatGoesOn();
        theGreatestMomentOfAKeyComesFirst();
        theKeyDecidesBeforeTheMoment();
        momentsFarApartDoNotWrapAround();
        noTwoHaveTheSameKeyAndMoment();
        oneOfTheTwoIsEnoughToDiffer();
        thereAreAtMostAHundredSixty();
        Check.finish();
    }

    /** "A VERSION has a KEY, 1 .. 40 bytes": each length that there is. */
    private static void keysOfEachLengthAreKept() {
        for (int length = 1; length <= 40; length++) {
            MomentTree tree = new MomentTree();
            Check.due("put of " + length, Check.put(tree, Check.repeated('k', length), 1, length, 1), 1);
            Check.due("find of " + length, Check.find(tree, Check.repeated('k', length), 1), length);
            Check.due("length of " + length, tree.current(3), length);
            Check.due("last of " + length, tree.word(length - 1), 0x6b00000000000000L);
        }
    }

    /** "1 .. 40 bytes": too small. */
    private static void noKeyIsEmpty() {
        MomentTree tree = new MomentTree();
        Check.dueThrow("put of none", IllegalArgumentException.class, () -> tree.put(0, 0, 0));
        Check.due("count", tree.count(), 0);
        Check.put(tree, "a", 0, 0, 0);
        Check.dueThrow("find of none", IllegalArgumentException.class, () -> tree.find(0));
    }

    /** "1 .. 40 bytes": too large, up to what the tape can have. */
    private static void noKeyIsLongerThanForty() {
        for (int length = 41; length <= 60; length++) {
            MomentTree tree = new MomentTree();
            Check.write(tree, Check.repeated('k', length));
            String of = " of " + length;
            Check.dueThrow("put" + of, IllegalArgumentException.class, () -> tree.put(0, 0, 0));
            Check.dueThrow("find" + of, IllegalArgumentException.class, () -> tree.find(0));
            Check.due("count" + of, tree.count(), 0);
        }
    }

    /** "a MOMENT, a PLACE and a SIZE, ints": no bit of them is lost. */
    private static void numbersAreInts() {
        MomentTree tree = new MomentTree();
        Check.put(tree, "k", 0x7ffffffe, 0x7ffffffd, 1000);
        tree.first();
        Check.due("moment", tree.current(0), 0x7ffffffe);
        Check.due("place", tree.current(1), 0x7ffffffd);
        Check.due("size", tree.current(2), 1000);
    }

    /** "bytes (0 .. 255)": all of them, in two objects as one has not room for them. */
    private static void everyByteHasItsPlaceInTheOrder() {
        for (int least : new int[] {0, 96}) {
            MomentTree tree = new MomentTree();
            for (int i = 0; i < 160; i++) {
                int letter = least + i * 37 % 160;
                tree.feed(letter << 24, 0, 0, 0, 0);
                tree.put(0, letter, 0);
            }
            Check.due("least byte", tree.first(), least);
            for (int letter = least + 1; letter < least + 160; letter++) {
                Check.due("byte " + letter, tree.next(), letter);
            }
        }
    }

    /** "in the order of their KEYS' first different bytes": at each of the 40, whatever follows. */
    private static void theFirstDifferentByteDecides() {
        for (int at = 0; at < 40; at++) {
            String same = Check.repeated('s', at);
            MomentTree tree = new MomentTree();
            Check.put(tree, same + "\u0080" + Check.repeated('\0', 39 - at), 5, 2, 0);
            Check.put(tree, same + "\u007f" + Check.repeated('\u00ff', 39 - at), 5, 1, 0);
            Check.due("the lower one at " + at, tree.first(), 1);
            Check.due("the higher one at " + at, tree.next(), 2);
        }
    }

    /** "first different bytes", before "a beginning before what goes on". */
    private static void aDifferentByteDecidesBeforeTheLength() {
        MomentTree tree = new MomentTree();
        Check.put(tree, "b", 1, 2, 0);
        Check.put(tree, "a" + Check.repeated('z', 39), 1, 1, 0);
        Check.put(tree, "baa", 1, 3, 0);
        Check.put(tree, "bb", 1, 4, 0);
        Check.due("40 bytes from a on", tree.first(), 1);
        Check.due("b", tree.next(), 2);
        Check.due("baa", tree.next(), 3);
        Check.due("bb", tree.next(), 4);
    }

    /** "a beginning before what goes on": even if zeros alone go on. */
    private static void aBeginningComesBeforeWhatGoesOn() {
        MomentTree tree = new MomentTree();
        for (int i = 0; i < 40; i++) {
            int length = i * 27 % 40 + 1;
            Check.put(tree, Check.repeated('\0', length), 7, length, 0);
        }
        Check.due("the shortest", tree.first(), 1);
        for (int length = 2; length <= 40; length++) {
            Check.due("zeros", tree.next(), length);
            Check.due("zeros' length", tree.current(3), length);
        }
    }

    /** "those of one KEY by their MOMENTS, the greatest first". */
    private static void theGreatestMomentOfAKeyComesFirst() {
        int[] falling = {Integer.MAX_VALUE, Integer.MAX_VALUE - 1, 1 << 30, 256, 255, 128, 127, 1, 0};
        MomentTree tree = new MomentTree();
        for (int i = 0; i < falling.length; i++) {
            Check.put(tree, "k", falling[i * 4 % falling.length], 0, 0);
        }
        tree.first();
        Check.due("greatest moment", tree.current(0), falling[0]);
        for (int i = 1; i < falling.length; i++) {
            tree.next();
            Check.due("next moment", tree.current(0), falling[i]);
        }
        Check.dueThrow("below 0 there is none", NoSuchElementException.class, tree::next);
    }

    /** "in the order of their KEYS'"; the moments only of one key. */
    private static void theKeyDecidesBeforeTheMoment() {
        MomentTree tree = new MomentTree();
        Check.put(tree, "b", 9, 3, 0);
        Check.put(tree, "a", 0, 2, 0);
        Check.put(tree, "a", 1, 1, 0);
        Check.put(tree, "aa", 99, 4, 0);
        Check.due("a 1", tree.first(), 1);
        Check.due("a 0", tree.next(), 2);
        Check.due("aa 99", tree.next(), 4);
        Check.due("b 9", tree.next(), 3);
    }

    /** "the greatest first": where a difference of two moments would be too large for an int. */
    private static void momentsFarApartDoNotWrapAround() {
        MomentTree tree = new MomentTree();
        Check.put(tree, "k", Integer.MAX_VALUE, 1, 0);
        Check.put(tree, "l", 0, 2, 0);
        Check.due("seek below all", Check.seek(tree, "k", Integer.MIN_VALUE, false), 2);
        Check.due("seek below 0", Check.seek(tree, "k", -1, false), 2);
        Check.dueThrow("find below all", NoSuchElementException.class,
                () -> Check.find(tree, "k", Integer.MIN_VALUE));
        Check.dueThrow("find below 0", NoSuchElementException.class, () -> Check.find(tree, "k", -2));
    }

    /** "No two have the same KEY and MOMENT." */
    private static void noTwoHaveTheSameKeyAndMoment() {
        MomentTree tree = new MomentTree();
        for (int again = 1; again <= 3; again++) {
            for (int moment = 0; moment < 3; moment++) {
                Check.put(tree, "k", moment, again * 10 + moment, again);
            }
        }
        Check.due("count", tree.count(), 3);
        Check.due("moment 2", tree.first(), 32);
        Check.due("moment 1", tree.next(), 31);
        Check.due("moment 0", tree.next(), 30);
        Check.dueThrow("no other", NoSuchElementException.class, tree::next);
    }

    /** "the same KEY and MOMENT": both of them. */
    private static void oneOfTheTwoIsEnoughToDiffer() {
        MomentTree tree = new MomentTree();
        Check.due("k 1", Check.put(tree, "k", 1, 1, 0), 1);
        Check.due("the same key", Check.put(tree, "k", 2, 2, 0), 2);
        Check.due("the same moment", Check.put(tree, "j", 1, 3, 0), 3);
        Check.due("the same moment, a zero behind", Check.put(tree, "k\0", 1, 4, 0), 4);
        Check.due("k 1 stays", Check.find(tree, "k", 1), 1);
    }

    /** "There are at most 160." */
    private static void thereAreAtMostAHundredSixty() {
        MomentTree tree = Check.full();
        Check.due("160 are taken", tree.count(), 160);
        tree.feed(999, 0, 0, 0, 0);
        Check.dueThrow("161 are not", IllegalStateException.class, () -> tree.put(0, 999, 0));
        Check.due("160 stay", tree.count(), 160);
        tree.first();
        for (int place = 1; place < 160; place++) {
            Check.due("each of them", tree.next(), place);
        }
        Check.dueThrow("no other", NoSuchElementException.class, tree::next);
    }
}
