import java.util.Arrays;
import java.util.NoSuchElementException;
import java.util.TreeMap;

/** All promises together: long mixed runs beside a plain model made of the Java library. */
public final class ModelTest {
    private static final int RUNS = 400;
    private static final int CALLS = 512;

    private record Name(byte[] key, int moment) implements Comparable<Name> {
        public int compareTo(Name other) {
            int byKeys = Arrays.compareUnsigned(key, other.key);
            return byKeys != 0 ? byKeys : Integer.compare(other.moment, moment);
        }
    }

    private static final class Model {
        final TreeMap<Name, int[]> versions = new TreeMap<>();
        byte[] tape = {};
        Name current = null;

        int feed(int a, int b, int c, int d, int e) {
            if (tape.length + 20 > 60) {
                throw new IndexOutOfBoundsException();
            }
            java.nio.ByteBuffer fed = java.nio.ByteBuffer.allocate(tape.length + 20);
            tape = fed.put(tape).putInt(a).putInt(b).putInt(c).putInt(d).putInt(e).array();
            return tape.length;
        }

        int end(int n) {
            refuseUnless(n >= 0 && n <= tape.length);
            tape = Arrays.copyOf(tape, n);
            return n;
        }

        int put(int moment, int place, int size) {
            refuseUnless(moment >= 0 && place >= -1 && size >= 0 && size <= 1000);
            Name name = new Name(read(1), moment);
            if (!versions.containsKey(name) && versions.size() == 160) {
                throw new IllegalStateException();
            }
            versions.put(name, new int[] {place, size});
            return versions.size();
        }

        int find(int moment) {
            byte[] key = read(1);
            current = null;
            for (Name name : versions.keySet()) {
                boolean fits = Arrays.equals(name.key, key) && name.moment <= moment;
                if (fits && (current == null || name.moment > current.moment)) {
                    current = name;
                }
            }
            return place();
        }

        int seek(int moment, boolean beyond) {
            Name name = new Name(read(0), moment);
            current = beyond ? versions.higherKey(name) : versions.ceilingKey(name);
            return place();
        }

        int next() {
            current = current == null ? null : versions.higherKey(current);
            return place();
        }

        int first() {
            current = versions.isEmpty() ? null : versions.firstKey();
            return place();
        }

        int current(int what) {
            refuseUnless(what >= 0 && what <= 3);
            int place = place();
            int[] rest = versions.get(current);
            return new int[] {current.moment, place, rest[1], current.key.length}[what];
        }

        long word(int i) {
            place();
            if (i < 0 || i >= current.key.length) {
                throw new IndexOutOfBoundsException();
            }
            return java.nio.ByteBuffer.wrap(Arrays.copyOfRange(current.key, i, i + 8)).getLong();
        }

        int clear() {
            int before = versions.size();
            versions.clear();
            current = null;
            return before;
        }

        int count() {
            return versions.size();
        }

        private byte[] read(int least) {
            refuseUnless(tape.length >= least && tape.length <= 40);
            byte[] taken = tape;
            tape = new byte[0];
            return taken;
        }

        private int place() {
            if (current == null) {
                throw new NoSuchElementException();
            }
            return versions.get(current)[0];
        }

        private static void refuseUnless(boolean fits) {
            if (!fits) {
                throw new IllegalArgumentException();
            }
        }
    }

    private final MomentTree tree = new MomentTree();
    private final Model model = new Model();
    private final int run;
    private long seed;

    private ModelTest(int run) {
        this.run = run;
        seed = run * 7919L + 1;
    }

    public static void main(String[] args) {
        for (int run = 0; run < RUNS; run++) {
            new ModelTest(run).play();
        }
        Check.finish();
    }

    /** The same numbers in every run of the tests. */
    private int any(int bound) {
        seed = seed * 6364136223846793005L + 1442695040888963407L;
        return (int) ((seed >>> 33) % bound);
    }

    private int oneOf(int... numbers) {
        return numbers[any(numbers.length)];
    }

    private void play() {
        // Some runs do little but put, so that the tree comes to be full.
        boolean filling = run % 4 == 0;
        for (int call = 0; call < CALLS; call++) {
            step(any(100), call, filling && call < 380);
        }
    }

    private void step(int kind, int call, boolean filling) {
        if (filling) {
            if (call % 2 == 0) {
                feed();
            } else {
                put(any(4));
            }
        } else if (kind < 22 && model.tape.length < 40 || kind == 0) {
            feed();
        } else if (kind < 40) {
            end();
        } else if (kind < 58) {
            put(oneOf(0, 1, 2, 3, -1, Integer.MAX_VALUE));
        } else {
            look(kind);
        }
    }

    private void look(int kind) {
        int moment = oneOf(0, 1, 2, 3, 4, -1, Integer.MIN_VALUE, Integer.MAX_VALUE);
        boolean beyond = any(2) == 0;
        int what = any(6) - 1;
        int i = any(43) - 1;
        if (kind < 64) {
            same("find " + moment, () -> tree.find(moment), () -> model.find(moment));
        } else if (kind < 72) {
            same("seek " + moment + beyond, () -> tree.seek(moment, beyond), () -> model.seek(moment, beyond));
        } else if (kind < 79) {
            same("next", tree::next, model::next);
        } else if (kind < 82) {
            same("first", tree::first, model::first);
        } else if (kind < 90) {
            same("current " + what, () -> tree.current(what), () -> model.current(what));
        } else if (kind < 95) {
            same("word " + i, () -> tree.word(i), () -> model.word(i));
        } else if (kind == 99 && any(6) == 0) {
            same("clear", tree::clear, model::clear);
        } else {
            same("count", tree::count, model::count);
        }
    }

    private void feed() {
        int a = oneOf(0, 1, -1, 0x61620000, 0x61ff0000, 0x7f800000) + (any(3) << 16) + any(12);
        int b = oneOf(0, 0, -1, 0x01000000);
        int e = oneOf(0, 0, 1, -1);
        same("feed", () -> tree.feed(a, b, 0, 0, e), () -> model.feed(a, b, 0, 0, e));
    }

    private void end() {
        int n = oneOf(0, 1, 2, 3, 4, 5, 20, 21, 39, 40, 41, model.tape.length, model.tape.length + 1, -1);
        same("end " + n, () -> tree.end(n), () -> model.end(n));
    }

    private void put(int moment) {
        int place = any(1000) - (any(20) == 0 ? 2 : 0);
        int size = oneOf(0, 1, 500, 999, 1000, any(30) == 0 ? 1001 : 7, any(30) == 0 ? -1 : 8);
        same("put " + moment + " " + place + " " + size,
                () -> tree.put(moment, place, size), () -> model.put(moment, place, size));
    }

    private void same(String what, Check.Call call, Check.Call want) {
        String told = "run " + run + ", " + what;
        long answer;
        try {
            answer = want.answer();
        } catch (RuntimeException due) {
            Check.dueThrow(told, due.getClass(), call);
            return;
        }
        try {
            Check.due(told, call.answer(), answer);
        } catch (RuntimeException thrown) {
            Check.wrong(told + ": threw " + thrown.getClass().getName() + ", due is " + answer);
        }
    }
}
