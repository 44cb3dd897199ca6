/** Promises 10 (at), 11 (patch), 12 (cut) and 20 (count). */
public final class DataTest {
    private static final Class<IndexOutOfBoundsException> BOUNDS = IndexOutOfBoundsException.class;
    private static final Check check = new Check("DataTest");

    public static void main(String[] args) {
        at();
        patch();
        cut();
        cutAndBuild();
        count();
        check.end();
    }

    private static void at() {
        FlatStore x = Sample.built();
        check.due("first", 20, () -> x.at(0));
        check.due("last", 0, () -> x.at(79));
        check.due("without sign", 255, () -> x.at(70));
        check.refused("at(80)", BOUNDS, () -> x.at(80));
        check.refused("at(-1)", BOUNDS, () -> x.at(-1));
        check.refused("at(240)", BOUNDS, () -> x.at(240));
        check.refused("at(least)", BOUNDS, () -> x.at(Integer.MIN_VALUE));
        check.refused("at(most)", BOUNDS, () -> x.at(Integer.MAX_VALUE));
        x.verify(0);
        x.at(3);
        check.due("at leaves the data verified", 1, () -> x.count(4));
    }

    private static void patch() {
        FlatStore x = Sample.verified();
        check.refused("patch(80)", BOUNDS, () -> x.patch(80, 0));
        check.refused("patch(-1)", BOUNDS, () -> x.patch(-1, 0));
        check.refused("patch(most)", BOUNDS, () -> x.patch(Integer.MAX_VALUE, 0));
        check.due("still verified", 1, () -> x.count(4));
        check.due("what it was", 255, () -> x.patch(70, -2));
        check.due("lowest bits", 254, () -> x.at(70));
        check.due("not verified", 0, () -> x.count(4));
        check.due("what it was", 254, () -> x.patch(70, 256 + 3));
        check.due("lowest bits", 3, () -> x.at(70));
        check.due("its neighbour", 255, () -> x.at(71));
        check.due("verify", 2, () -> x.verify(0));
        check.due("seen by the reading", -253, () -> x.element(2, 1));
        check.due("the same byte again", 3, () -> x.patch(70, 3));
        check.due("not verified either", 0, () -> x.count(4));
        check.due("last", 0, () -> x.patch(79, 9));
        check.due("last", 9, () -> x.at(79));
    }

    private static void cut() {
        FlatStore x = Sample.verified();
        check.refused("cut(-1)", BOUNDS, () -> x.cut(-1));
        check.refused("cut(81)", BOUNDS, () -> x.cut(81));
        check.refused("cut(least)", BOUNDS, () -> x.cut(Integer.MIN_VALUE));
        check.due("still verified", 1, () -> x.count(4));
        check.due("cut nothing", 0, () -> x.cut(80));
        check.due("not verified", 0, () -> x.count(4));
        check.due("the last zero is not needed", 1, () -> x.cut(79));
        check.due("verify", 2, () -> x.verify(0));
        check.due("cut", 29, () -> x.cut(50));
        check.due("size", 50, () -> x.count(0));
        check.due("last", 5, () -> x.at(49));
        check.refused("behind", BOUNDS, () -> x.at(50));
        check.refused("patch behind", BOUNDS, () -> x.patch(50, 1));
        check.refused("cut(51)", BOUNDS, () -> x.cut(51));
        check.due("cut all", 50, () -> x.cut(0));
        check.due("cut all again", 0, () -> x.cut(0));
        check.refused("at(0)", BOUNDS, () -> x.at(0));
    }

    private static void cutAndBuild() {
        FlatStore x = Sample.built();
        x.patch(10, 77);
        x.cut(5);
        x.build(1);
        check.bytes("whole again", x, Sample.builtBytes());
    }

    private static void count() {
        FlatStore x = Sample.built();
        x.add(1);
        int[] built = {80, 2, 6, 1, 0, -1};
        int[] verified = {80, 2, 6, 1, 1, 0};
        int[] below = {80, 2, 6, 1, 1, 1};
        counts("built", x, built);
        x.verify(0);
        counts("verified", x, verified);
        x.down(3);
        counts("below", x, below);
        x.top();
        counts("top", x, verified);
        x.cut(80);
        counts("cut", x, built);
        x.verify(3);
        counts("for table 3", x, new int[] {80, 2, 6, 1, 1, 3});
        x.make(3);
        x.field(3, 0, 0, false);
        x.add(2);
        counts("more", x, new int[] {80, 3, 7, 2, 0, -1});
        for (int what : new int[] {-1, 6, Integer.MIN_VALUE, Integer.MAX_VALUE}) {
            check.refused("count(" + what + ")", IllegalArgumentException.class, () -> x.count(what));
        }
    }

    private static void counts(String when, FlatStore x, int[] want) {
        for (int what = 0; what < 6; what++) {
            int asked = what;
            check.due(when + ", count(" + what + ")", want[what], () -> x.count(asked));
        }
    }
}
