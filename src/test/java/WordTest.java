import java.util.NoSuchElementException;

/** Promise 10: word. */
public final class WordTest {
    public static void main(String[] args) {
        eightBytesFromEachOn();
        zerosStandBehindTheEnd();
        zerosStandBehindAKeyOfOne();
        bytesOfTwoHundredFiftyFiveAreKept();
        zerosOfTheKeyAreTold();
        belowZeroIsRefused();
        behindTheLastIsRefused();
        noneIsCurrent();
        noneIsCurrentComesFirst();
        wordLeavesAllElse();
        Check.finish();
    }

    private static MomentTree at(String key) {
        MomentTree tree = new MomentTree();
        Check.put(tree, key, 1, 2, 3);
        tree.first();
        return tree;
    }

    /** "8 bytes of the CURRENT one's KEY from i on, the highest first": at each i of 40. */
    private static void eightBytesFromEachOn() {
        MomentTree tree = new MomentTree();
        byte[] key = new byte[40];
        for (int i = 0; i < key.length; i++) {
            key[i] = (byte) (i * 6 + 21);
        }
        Check.write(tree, key);
        tree.put(1, 2, 3);
        tree.first();
        tree.feed(-1, -1, -1, -1, -1);
        for (int i = 0; i < key.length; i++) {
            long want = 0;
            for (int at = i; at < i + 8; at++) {
                want = want * 256 + (at < 40 ? Byte.toUnsignedInt(key[at]) : 0);
            }
            Check.due("word " + i, tree.word(i), want);
        }
    }

    /** "zeros behind its end". */
    private static void zerosStandBehindTheEnd() {
        MomentTree tree = at("abcdefghi");
        Check.due("8 of 9", tree.word(0), 0x6162636465666768L);
        Check.due("the last 8 of 9", tree.word(1), 0x6263646566676869L);
        Check.due("7 of 9", tree.word(2), 0x6364656667686900L);
        Check.due("the last of 9", tree.word(8), 0x6900000000000000L);
    }

    /** The same: not what the tape, or a longer key before it, had there. */
    private static void zerosStandBehindAKeyOfOne() {
        MomentTree tree = new MomentTree();
        Check.put(tree, Check.repeated('\u00ff', 40), 1, 2, 3);
        tree.feed(-1, -1, -1, -1, -1);
        tree.end(1);
        tree.put(1, 4, 3);
        tree.feed(-1, -1, -1, -1, -1);
        tree.first();
        Check.due("the one", tree.word(0), 0xff00000000000000L);
    }

    /** "the highest first": no byte is taken for a number below 0. */
    private static void bytesOfTwoHundredFiftyFiveAreKept() {
        MomentTree tree = at(Check.repeated('\u00ff', 9));
        Check.due("8 bytes of 255", tree.word(0), -1L);
        Check.due("the last 8", tree.word(1), -1L);
        Check.due("a zero behind", tree.word(2), -256L);
        Check.due("128 between zeros", at("\0\u0080\0\u0080").word(0), 0x0080008000000000L);
    }

    private static void zerosOfTheKeyAreTold() {
        MomentTree tree = at("\0\0\1");
        Check.due("word 0", tree.word(0), 0x0000010000000000L);
        Check.due("word 1", tree.word(1), 0x0001000000000000L);
        Check.due("a zero alone", at("\0").word(0), 0);
    }

    /** "i is none of them: IndexOutOfBoundsException": too small. */
    private static void belowZeroIsRefused() {
        MomentTree tree = at("abc");
        for (int i : new int[] {-1, -8, Integer.MIN_VALUE}) {
            Check.dueThrow("word " + i, IndexOutOfBoundsException.class, () -> tree.word(i));
        }
    }

    /** The same: too large, for keys of each length; the last one is none too many. */
    private static void behindTheLastIsRefused() {
        for (int length = 1; length <= 40; length++) {
            MomentTree tree = at(Check.repeated('a', length));
            int behind = length;
            String of = " of " + length;
            Check.due("the last" + of, tree.word(length - 1), 0x6100000000000000L);
            Check.dueThrow("behind" + of, IndexOutOfBoundsException.class, () -> tree.word(behind));
            Check.dueThrow("one more" + of, IndexOutOfBoundsException.class,
                    () -> tree.word(behind + 1));
            Check.dueThrow("greatest" + of, IndexOutOfBoundsException.class,
                    () -> tree.word(Integer.MAX_VALUE));
        }
    }

    /** "None is: NoSuchElementException". */
    private static void noneIsCurrent() {
        MomentTree tree = new MomentTree();
        Check.dueThrow("no version", NoSuchElementException.class, () -> tree.word(0));
        Check.put(tree, "abc", 1, 2, 3);
        Check.dueThrow("none was gone to", NoSuchElementException.class, () -> tree.word(0));
        tree.first();
        tree.clear();
        Check.dueThrow("cleared", NoSuchElementException.class, () -> tree.word(0));
    }

    /** "None is" stands before "i is none of them". */
    private static void noneIsCurrentComesFirst() {
        MomentTree tree = new MomentTree();
        Check.put(tree, "abc", 1, 2, 3);
        for (int i : new int[] {-1, 3, 40, Integer.MIN_VALUE, Integer.MAX_VALUE}) {
            Check.dueThrow("word " + i, NoSuchElementException.class, () -> tree.word(i));
        }
    }

    private static void wordLeavesAllElse() {
        MomentTree tree = new MomentTree();
        Check.put(tree, "k", 1, 2, 3);
        Check.put(tree, "l", 4, 5, 6);
        tree.first();
        Check.write(tree, "dd");
        tree.word(0);
        Check.dueTape("word", tree, 2);
        Check.due("what is behind it", tree.next(), 5);
        Check.due("count", tree.count(), 2);
    }
}
