import java.nio.charset.StandardCharsets;
import java.util.Arrays;
import java.util.NoSuchElementException;
import java.util.function.Supplier;

/** What the tests share: saying what was due, and writing keys on a tape. */
final class Check {
    interface Call {
        long answer();
    }

    interface CallOn {
        long answer(MomentTree tree);
    }

    private static int asDue = 0;
    private static int wrong = 0;

    private Check() {
    }

    static void due(String what, long got, long want) {
        due(what, Long.toString(got), Long.toString(want));
    }

    static void due(String what, String got, String want) {
        if (got.equals(want)) {
            asDue++;
        } else {
            wrong(what + ": answered " + got + ", due is " + want);
        }
    }

    static void wrong(String told) {
        wrong++;
        System.out.println(told);
    }

    /** Exactly that class is due, not one below it. */
    static void dueThrow(String what, Class<? extends RuntimeException> want, Call call) {
        String got;
        try {
            got = "answered " + call.answer();
        } catch (RuntimeException thrown) {
            if (thrown.getClass() == want) {
                asDue++;
                return;
            }
            got = "threw " + thrown.getClass().getName();
        }
        wrong(what + ": " + got + ", due is a throw of " + want.getName());
    }

    /** Tells all of an object on which the call was made and threw. */
    static Told afterThrow(String what, Supplier<MomentTree> made,
            Class<? extends RuntimeException> want, CallOn call) {
        return Told.of(() -> {
            MomentTree tree = made.get();
            dueThrow(what, want, () -> call.answer(tree));
            return tree;
        });
    }

    /** The call throws, and all that can be told is as in an object on which it was not made. */
    static void changesNothing(String what, Supplier<MomentTree> made,
            Class<? extends RuntimeException> want, CallOn call) {
        Told before = Told.of(made);
        Told after = afterThrow(what, made, want, call);
        due(what + ", current", after.current(), before.current());
        due(what + ", versions", after.versions(), before.versions());
        due(what + ", tape", after.tape(), before.tape());
    }

    /** Asks in a way that leaves a tape of that length as it is. */
    static void dueTape(String what, MomentTree tree, int length) {
        dueThrow(what + ": the tape is no longer", IllegalArgumentException.class,
                () -> tree.end(length + 1));
        due(what + ": the tape's length", tree.end(length), length);
    }

    static void dueNoneCurrent(String what, MomentTree tree) {
        for (int number = 0; number < 4; number++) {
            int asked = number;
            dueThrow(what + ": none is current", NoSuchElementException.class,
                    () -> tree.current(asked));
        }
        dueThrow(what + ": none has a word", NoSuchElementException.class, () -> tree.word(0));
    }

    /** Ends the test: without one check it has failed too. */
    static void finish() {
        System.out.println(asDue + " checks as due, " + wrong + " not");
        System.exit(wrong == 0 && asDue > 0 ? 0 : 1);
    }

    static String repeated(char letter, int times) {
        return String.valueOf(letter).repeat(times);
    }

    /** Writes the bytes, at most 60, on an empty tape. */
    static void write(MomentTree tree, byte[] bytes) {
        for (int from = 0; from < bytes.length; from += 20) {
            byte[] part = Arrays.copyOf(Arrays.copyOfRange(bytes, from, bytes.length), 20);
            tree.feed(number(part, 0), number(part, 4), number(part, 8), number(part, 12),
                    number(part, 16));
        }
        if (bytes.length % 20 != 0) {
            tree.end(bytes.length);
        }
    }

    /** A character of the text, 0 to 255, is a byte. */
    static void write(MomentTree tree, String text) {
        write(tree, text.getBytes(StandardCharsets.ISO_8859_1));
    }

    static int put(MomentTree tree, String key, int moment, int place, int size) {
        write(tree, key);
        return tree.put(moment, place, size);
    }

    static int find(MomentTree tree, String key, int moment) {
        write(tree, key);
        return tree.find(moment);
    }

    static int seek(MomentTree tree, String key, int moment, boolean beyond) {
        write(tree, key);
        return tree.seek(moment, beyond);
    }

    /** 160 versions, each of a key of its own, in 320 calls; the places are in the keys' order. */
    static MomentTree full() {
        MomentTree tree = new MomentTree();
        for (int i = 0; i < 160; i++) {
            int turn = i * 37 % 160;
            tree.feed(turn, 0, 0, 0, 0);
            tree.put(3, turn, 1);
        }
        return tree;
    }

    private static int number(byte[] bytes, int from) {
        return (bytes[from] & 255) << 24 | (bytes[from + 1] & 255) << 16
                | (bytes[from + 2] & 255) << 8 | bytes[from + 3] & 255;
    }
}
