import java.lang.reflect.Field;
import java.util.ArrayList;
import java.util.List;

/** Promise 12: count. No call can break the tree, so this test reaches inside to do it. */
public final class CountTest {
    private static final int FULL = 160;

    public static void main(String[] args) throws ReflectiveOperationException {
        countTellsHowMany();
        countIsSoundInManyOrdersOfPuts();
        fiveAreSoundInEveryOrderOfPuts();
        countLeavesAllElse();
        balancedTreesAreLow();
        wrongHeightsAreSeen();
        wrongLeaningsAreSeen();
        wrongOrdersAreSeen();
        Check.finish();
    }

    private static MomentTree filled(int versions, int step, boolean checked) {
        MomentTree tree = new MomentTree();
        for (int i = 0; i < versions; i++) {
            int turn = i * step % versions;
            tree.feed(turn / 2, 0, 0, 0, 0);
            tree.put(1 - turn % 2, turn, 1);
            if (checked) {
                Check.due("count in step " + step, tree.count(), i + 1);
            }
        }
        return tree;
    }

    /** "How many VERSIONS there are": from none to 160, whatever was refused. */
    private static void countTellsHowMany() {
        MomentTree tree = new MomentTree();
        Check.due("of none", tree.count(), 0);
        Check.put(tree, "a", 1, 1, 1);
        Check.due("of one", tree.count(), 1);
        Check.put(tree, "a", 1, 2, 2);
        Check.due("the same again", tree.count(), 1);
        Check.put(tree, "a", 2, 2, 2);
        Check.due("another moment", tree.count(), 2);
        Check.dueThrow("an empty tape", IllegalArgumentException.class, () -> tree.put(3, 1, 1));
        Check.due("after a refusal", tree.count(), 2);
        tree.clear();
        Check.due("cleared", tree.count(), 0);
        MomentTree full = Check.full();
        Check.due("of 160", full.count(), FULL);
        full.feed(-1, 0, 0, 0, 0);
        Check.dueThrow("161", IllegalStateException.class, () -> full.put(3, 1, 1));
        Check.due("160 stay", full.count(), FULL);
    }

    /** "-1 if ...": no order of puts leads there. */
    private static void countIsSoundInManyOrdersOfPuts() {
        int[] steps = {1, FULL - 1, 3, 7, 47, 61, 81, 99, 113};
        for (int step : steps) {
            filled(FULL, step, true);
        }
    }

    /** Among these, each of the four ways in which a tree can come to lean too far. */
    private static void fiveAreSoundInEveryOrderOfPuts() throws ReflectiveOperationException {
        for (int order = 0; order < 5 * 4 * 3 * 2; order++) {
            MomentTree tree = new MomentTree();
            List<Integer> left = new ArrayList<>(List.of(0, 1, 2, 3, 4));
            int rest = order;
            for (int put = 1; put <= 5; put++) {
                int key = left.remove(rest % left.size());
                rest /= left.size() + 1;
                tree.feed(key, 0, 0, 0, 0);
                tree.put(0, key, 1);
                Check.due("count of five in order " + order, tree.count(), put);
            }
            Check.due("height of five in order " + order, (int) get(root(tree), "height"), 3);
        }
    }

    private static void countLeavesAllElse() {
        MomentTree tree = filled(5, 1, false);
        tree.first();
        Check.write(tree, "abc");
        Check.due("count", tree.count(), 5);
        Check.due("count again", tree.count(), 5);
        Check.dueTape("count", tree, 3);
        Check.due("current stays", tree.current(1), 0);
    }

    /** Of the document's beginning: "in a balanced tree". */
    private static void balancedTreesAreLow() throws ReflectiveOperationException {
        for (int step : new int[] {1, FULL - 1}) {
            int height = (int) get(root(filled(FULL, step, false)), "height");
            Check.due("height of 160 put in step " + step, height, 8);
        }
    }

    /** "-1 if in the tree a height ... is not as it must be". */
    private static void wrongHeightsAreSeen() throws ReflectiveOperationException {
        for (String way : new String[] {"", "left", "right", "left right", "right left left"}) {
            for (int change : new int[] {-1, 1}) {
                MomentTree tree = filled(20, 1, false);
                Object at = follow(tree, way);
                int height = (int) get(at, "height");
                set(at, "height", height + change);
                Check.due("height changed at root " + way, tree.count(), -1);
                set(at, "height", height);
                Check.due("height mended at root " + way, tree.count(), 20);
            }
        }
    }

    /**
     * "-1 if in the tree ... a leaning ... is not as it must be". Four versions are three high on one
     * side only: without the other, the leaning alone is wrong.
     */
    private static void wrongLeaningsAreSeen() throws ReflectiveOperationException {
        leaningIsSeen(filled(4, 1, false), "left");
        leaningIsSeen(filled(4, 3, false), "right");
    }

    private static void leaningIsSeen(MomentTree tree, String lopped) throws ReflectiveOperationException {
        Object root = root(tree);
        Check.due("the side to be lopped is the low one", (int) get(get(root, lopped), "height"), 1);
        Check.due("leaning by one", tree.count(), 4);
        set(root, lopped, null);
        Check.due("leaning by two without " + lopped, tree.count(), -1);
    }

    /** "-1 if in the tree ... the order is not as it must be". */
    private static void wrongOrdersAreSeen() throws ReflectiveOperationException {
        for (String way : new String[] {"", "left", "right", "left right", "right left left"}) {
            MomentTree tree = filled(20, 1, false);
            Object at = follow(tree, way);
            byte[] key = (byte[]) get(at, "key");
            set(at, "key", new byte[] {-1});
            Check.due("key changed at root " + way, tree.count(), -1);
            set(at, "key", key);
            Check.due("key mended at root " + way, tree.count(), 20);
        }
        turnedSidesAreSeen();
        sameKeysAndMomentsAreSeen();
        farNeighboursAreSeen();
    }

    private static void turnedSidesAreSeen() throws ReflectiveOperationException {
        MomentTree tree = filled(3, 1, false);
        Object root = root(tree);
        Object left = get(root, "left");
        set(root, "left", get(root, "right"));
        set(root, "right", left);
        Check.due("sides turned", tree.count(), -1);
    }

    private static void sameKeysAndMomentsAreSeen() throws ReflectiveOperationException {
        for (String side : new String[] {"left", "right"}) {
            MomentTree tree = filled(3, 1, false);
            Object root = root(tree);
            set(get(root, side), "key", get(root, "key"));
            set(get(root, side), "moment", get(root, "moment"));
            Check.due("the same twice, " + side, tree.count(), -1);
        }
    }

    /** In order against its own top, but not against the top above that. */
    private static void farNeighboursAreSeen() throws ReflectiveOperationException {
        MomentTree left = filled(7, 1, false);
        set(follow(left, "left right"), "key", new byte[] {1});
        Check.due("the left side's last above the root", left.count(), -1);
        MomentTree right = filled(7, 1, false);
        set(follow(right, "right left"), "key", new byte[] {0});
        Check.due("the right side's first below the root", right.count(), -1);
    }

    private static Object root(MomentTree tree) throws ReflectiveOperationException {
        return get(get(tree, "tree"), "root");
    }

    private static Object follow(MomentTree tree, String way) throws ReflectiveOperationException {
        Object at = root(tree);
        for (String side : way.isEmpty() ? new String[0] : way.split(" ")) {
            at = get(at, side);
        }
        return at;
    }

    private static Object get(Object holder, String name) throws ReflectiveOperationException {
        return field(holder, name).get(holder);
    }

    private static void set(Object holder, String name, Object value)
            throws ReflectiveOperationException {
        field(holder, name).set(holder, value);
    }

    private static Field field(Object holder, String name) throws ReflectiveOperationException {
        Field field = holder.getClass().getDeclaredField(name);
        field.setAccessible(true);
        return field;
    }
}
