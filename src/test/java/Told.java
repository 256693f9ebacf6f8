import java.util.NoSuchElementException;
import java.util.function.Supplier;

/** All that the calls can tell of an object. */
record Told(String current, String versions, String tape) {
    // A walk through all of so many would go beyond the 512 calls if it told more than places.
    private static final int FEW = 20;
    private static final int MOST = 160;

    /** Each part is told of an object of its own, as telling one may blur another. */
    static Told of(Supplier<MomentTree> made) {
        return new Told(currentOf(made.get()), versionsOf(made.get()), tapeOf(made.get()));
    }

    static String currentOf(MomentTree tree) {
        int length;
        try {
            length = tree.current(3);
        } catch (NoSuchElementException none) {
            return "none";
        }
        StringBuilder text = new StringBuilder();
        text.append(tree.current(0)).append(' ').append(tree.current(1)).append(' ');
        text.append(tree.current(2)).append(' ').append(length);
        for (int i = 0; i < length; i += 8) {
            text.append(' ').append(Long.toHexString(tree.word(i)));
        }
        return text.toString();
    }

    static String versionsOf(MomentTree tree) {
        int count = tree.count();
        StringBuilder text = new StringBuilder().append(count);
        try {
            int place = tree.first();
            for (int i = 0; i < MOST; i++) {
                text.append("; ").append(count <= FEW ? currentOf(tree) : place);
                place = tree.next();
            }
            text.append("; more");
        } catch (NoSuchElementException behindTheLast) {
            text.append('.');
        }
        return text.toString();
    }

    /** No call tells a byte behind the 40th: of a longer tape the length and the first 40. */
    static String tapeOf(MomentTree tree) {
        int length = tapeLength(tree);
        if (length == 0) {
            return "empty";
        }
        tree.end(Math.min(length, 40));
        tree.clear();
        tree.put(0, 0, 0);
        tree.first();
        return "of " + length + ": " + currentOf(tree);
    }

    private static int tapeLength(MomentTree tree) {
        try {
            int length = tree.feed(0, 0, 0, 0, 0) - 20;
            return tree.end(length);
        } catch (IndexOutOfBoundsException aboveForty) {
            return longTapeLength(tree);
        }
    }

    private static int longTapeLength(MomentTree tree) {
        for (int n = 60; n > 40; n--) {
            try {
                return tree.end(n);
            } catch (IllegalArgumentException tooLong) {
                continue;
            }
        }
        return -1;
    }
}
