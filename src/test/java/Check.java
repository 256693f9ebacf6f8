import java.nio.charset.StandardCharsets;
import java.util.Arrays;

/** What the tests share: saying what was due, and writing keys on a tape. */
final class Check {
    interface Call {
        long answer();
    }

    private static int asDue = 0;
    private static int wrong = 0;

    private Check() {
    }

    static void due(String what, long got, long want) {
        if (got == want) {
            asDue++;
        } else {
            wrong(what + ": answered " + got + ", due is " + want);
        }
    }

    static void wrong(String told) {
        wrong++;
        System.out.println(told);
    }

    /** Exactly that class is due, not one below it. */
    static void dueThrow(String what, Class<? extends RuntimeException> want, Call call) {
        String got;
        try {
            got = "answered " + call.answer();
        } catch (RuntimeException thrown) {
            if (thrown.getClass() == want) {
                asDue++;
                return;
            }
            got = "threw " + thrown.getClass().getName();
        }
        wrong(what + ": " + got + ", due is a throw of " + want.getName());
    }

    /** Ends the test: without one check it has failed too. */
    static void finish() {
        System.out.println(asDue + " checks as due, " + wrong + " not");
        System.exit(wrong == 0 && asDue > 0 ? 0 : 1);
    }

    static byte[] bytes(String text) {
        return text.getBytes(StandardCharsets.ISO_8859_1);
    }

    static String repeated(char letter, int times) {
        return String.valueOf(letter).repeat(times);
    }

    /** Writes the key on an empty tape. */
    static void write(MomentTree tree, byte[] key) {
        for (int from = 0; from < key.length; from += 20) {
            byte[] part = Arrays.copyOf(Arrays.copyOfRange(key, from, key.length), 20);
            tree.feed(number(part, 0), number(part, 4), number(part, 8), number(part, 12),
                    number(part, 16));
        }
        if (key.length % 20 != 0) {
            tree.end(key.length);
        }
    }

    static void write(MomentTree tree, String key) {
        write(tree, bytes(key));
    }

    static int put(MomentTree tree, String key, int moment, int place, int size) {
        write(tree, key);
        return tree.put(moment, place, size);
    }

    static int find(MomentTree tree, String key, int moment) {
        write(tree, key);
        return tree.find(moment);
    }

    static int seek(MomentTree tree, String key, int moment, boolean beyond) {
        write(tree, key);
        return tree.seek(moment, beyond);
    }

    private static int number(byte[] bytes, int from) {
        return (bytes[from] & 255) << 24 | (bytes[from + 1] & 255) << 16
                | (bytes[from + 2] & 255) << 8 | bytes[from + 3] & 255;
    }

    /** The length that the tape has: the greatest that it can be ended at, which leaves it as it is. */
    static int tapeLength(MomentTree tree) {
        int length = -1;
        for (int n = 60; n >= 0 && length < 0; n--) {
            try {
                length = tree.end(n);
            } catch (IllegalArgumentException tooLong) {
                length = -1;
            }
        }
        return length;
    }
}
