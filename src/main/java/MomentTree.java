import java.util.Arrays;
import java.util.NoSuchElementException;

/**
 * Versions of keys in a balanced tree: by keys, the last moment first; each version is found, gone
 * to and gone on from by its key and moment, however many there are.
 */
public final class MomentTree {
    private static final int LONGEST_TAPE = 60;
    private static final int FED_BYTES = 20;
    private static final int LONGEST_KEY = 40;
    private static final int MOST_VERSIONS = 160;
    private static final int GREATEST_SIZE = 1000;
    private static final int WORD_BYTES = 8;
    private static final byte[] BEFORE_ALL_KEYS = {};

    private final byte[] tape;
    private int tapeLength;
    private final Tree tree;
    private Version current;

    public MomentTree() {
        tape = new byte[LONGEST_TAPE];
        tapeLength = 0;
        tree = new Tree();
        current = null;
    }

    public int feed(int a, int b, int c, int d, int e) throws IndexOutOfBoundsException {
        if (tapeLength > LONGEST_TAPE - FED_BYTES) {
            throw new IndexOutOfBoundsException();
        }
        append(a);
        append(b);
        append(c);
        append(d);
        append(e);
        return tapeLength;
    }

    public int end(int n) throws IllegalArgumentException {
        if (n < 0 || n > tapeLength) {
            throw new IllegalArgumentException();
        }
        tapeLength = n;
        return n;
    }

    public int put(int moment, int place, int size)
            throws IllegalArgumentException, IllegalStateException {
        if (moment < 0 || place < -1 || size < 0 || size > GREATEST_SIZE || !tapeIsKey()) {
            throw new IllegalArgumentException();
        }
        byte[] key = takeTape();
        Version there = tree.firstFrom(key, moment, false);
        if (there != null && there.orderOf(key, moment) == 0) {
            there.place = place;
            there.size = size;
            return tree.versions;
        }
        if (tree.versions >= MOST_VERSIONS) {
            throw new IllegalStateException();
        }
        tree.add(new Version(key, moment, place, size));
        return tree.versions;
    }

    public int find(int moment) throws IllegalArgumentException, NoSuchElementException {
        if (!tapeIsKey()) {
            throw new IllegalArgumentException();
        }
        byte[] key = takeTape();
        // A key's versions stand from the greatest moment down, so the first from here on is the one.
        Version found = tree.firstFrom(key, moment, false);
        boolean isOfKey = found != null && Version.orderOfKeys(key, found.key) == 0;
        return goTo(isOfKey ? found : null);
    }

    public int seek(int moment, boolean beyond)
            throws IllegalArgumentException, NoSuchElementException {
        if (tapeLength > LONGEST_KEY) {
            throw new IllegalArgumentException();
        }
        return goTo(tree.firstFrom(takeTape(), moment, beyond));
    }

    public int next() throws NoSuchElementException {
        return goTo(current == null ? null : tree.firstFrom(current.key, current.moment, true));
    }

    public int first() throws NoSuchElementException {
        return goTo(tree.firstFrom(BEFORE_ALL_KEYS, 0, false));
    }

    public int current(int what) throws IllegalArgumentException, NoSuchElementException {
        if (what < 0 || what > 3) {
            throw new IllegalArgumentException();
        }
        if (current == null) {
            throw new NoSuchElementException();
        }
        switch (what) {
            case 0:
                return current.moment;
            case 1:
                return current.place;
            case 2:
                return current.size;
            default:
                return current.key.length;
        }
    }

    public long word(int i) throws NoSuchElementException, IndexOutOfBoundsException {
        if (current == null) {
            throw new NoSuchElementException();
        }
        byte[] key = current.key;
        if (i < 0 || i >= key.length) {
            throw new IndexOutOfBoundsException();
        }
        long word = 0;
        for (int at = i; at < i + WORD_BYTES; at++) {
            word = word << 8 | (at < key.length ? key[at] & 255 : 0);
        }
        return word;
    }

    public int clear() {
        int versions = tree.versions;
        tree.empty();
        current = null;
        return versions;
    }

    public int count() {
        return tree.countIfSound();
    }

    private void append(int number) {
        for (int shift = 24; shift >= 0 && tapeLength < LONGEST_TAPE; shift -= 8) {
            tape[tapeLength] = (byte) (number >> shift);
            tapeLength++;
        }
    }

    private boolean tapeIsKey() {
        return tapeLength >= 1 && tapeLength <= LONGEST_KEY;
    }

    private byte[] takeTape() {
        byte[] taken = Arrays.copyOf(tape, tapeLength);
        tapeLength = 0;
        return taken;
    }

    private int goTo(Version version) {
        current = version;
        if (version == null) {
            throw new NoSuchElementException();
        }
        return version.place;
    }

    /** One version, and the top of the part of the tree that hangs from it. */
    private static final class Version {
        final byte[] key;
        final int moment;
        int place;
        int size;
        int height;
        Version left;
        Version right;

        Version(byte[] key, int moment, int place, int size) {
            this.key = key;
            this.moment = moment;
            this.place = place;
            this.size = size;
            height = 1;
            left = null;
            right = null;
        }

        /** Below 0 if that key and moment stand before this version, 0 if they are its own. */
        int orderOf(byte[] otherKey, int otherMoment) {
            int byKeys = orderOfKeys(otherKey, key);
            return byKeys != 0 ? byKeys : Integer.compare(moment, otherMoment);
        }

        static int orderOfKeys(byte[] one, byte[] other) {
            int shared = Math.min(one.length, other.length);
            for (int i = 0; i < shared; i++) {
                int difference = (one[i] & 255) - (other[i] & 255);
                if (difference != 0) {
                    return difference;
                }
            }
            return one.length - other.length;
        }
    }

    /** A tree in which the two sides of each version differ in height by one at most. */
    private static final class Tree {
        // 160 versions so balanced stand at most 10 deep: the bound is only there to be seen.
        static final int DEEPEST = 40;

        Version root;
        int versions;

        Tree() {
            root = null;
            versions = 0;
        }

        /** The first version not before that key and moment (beyond: behind them), or null. */
        Version firstFrom(byte[] key, int moment, boolean beyond) {
            Version first = null;
            Version at = root;
            for (int depth = 0; at != null && depth < DEEPEST; depth++) {
                int order = at.orderOf(key, moment);
                if (order < 0 || order == 0 && !beyond) {
                    first = at;
                    at = at.left;
                } else {
                    at = at.right;
                }
            }
            return first;
        }

        void add(Version added) {
            root = withAdded(root, added, 0);
            versions++;
        }

        void empty() {
            root = null;
            versions = 0;
        }

        int countIfSound() {
            return countSound(root, null, null, 0);
        }

        private static Version withAdded(Version top, Version added, int depth) {
            if (top == null) {
                return added;
            }
            if (depth >= DEEPEST) {
                return top;
            }
            if (top.orderOf(added.key, added.moment) < 0) {
                top.left = withAdded(top.left, added, depth + 1);
            } else {
                top.right = withAdded(top.right, added, depth + 1);
            }
            return balanced(top);
        }

        private static Version balanced(Version top) {
            top.height = heightFromSides(top);
            int leaning = leaning(top);
            if (leaning > 1) {
                // A left side that leans right would only move the fault over: it is turned first.
                if (leaning(top.left) < 0) {
                    top.left = turnedLeft(top.left);
                }
                return turnedRight(top);
            }
            if (leaning < -1) {
                if (leaning(top.right) > 0) {
                    top.right = turnedRight(top.right);
                }
                return turnedLeft(top);
            }
            return top;
        }

        private static Version turnedRight(Version top) {
            if (top == null || top.left == null) {
                return top;
            }
            Version riser = top.left;
            top.left = riser.right;
            riser.right = top;
            top.height = heightFromSides(top);
            riser.height = heightFromSides(riser);
            return riser;
        }

        private static Version turnedLeft(Version top) {
            if (top == null || top.right == null) {
                return top;
            }
            Version riser = top.right;
            top.right = riser.left;
            riser.left = top;
            top.height = heightFromSides(top);
            riser.height = heightFromSides(riser);
            return riser;
        }

        private static int heightOf(Version top) {
            return top == null ? 0 : top.height;
        }

        private static int heightFromSides(Version top) {
            return 1 + Math.max(heightOf(top.left), heightOf(top.right));
        }

        /** How much higher the left side is than the right. */
        private static int leaning(Version top) {
            return top == null ? 0 : heightOf(top.left) - heightOf(top.right);
        }

        /** How many versions hang here; -1 if one of them is not as and where it must be. */
        private static int countSound(Version top, Version before, Version behind, int depth) {
            if (top == null) {
                return 0;
            }
            if (depth >= DEEPEST || !isBalanced(top) || !isBetween(top, before, behind)) {
                return -1;
            }
            int left = countSound(top.left, before, top, depth + 1);
            int right = countSound(top.right, top, behind, depth + 1);
            return left < 0 || right < 0 ? -1 : left + 1 + right;
        }

        private static boolean isBalanced(Version top) {
            int leaning = leaning(top);
            return top.height == heightFromSides(top) && leaning >= -1 && leaning <= 1;
        }

        private static boolean isBetween(Version version, Version before, Version behind) {
            return (before == null || before.orderOf(version.key, version.moment) > 0)
                    && (behind == null || behind.orderOf(version.key, version.moment) < 0);
        }
    }
}
