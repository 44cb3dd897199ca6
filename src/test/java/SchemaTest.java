/** Promises 1 (a new object) and 2 (field). */
public final class SchemaTest {
    private static final Class<IllegalArgumentException> ARGUMENT = IllegalArgumentException.class;
    private static final Class<IllegalStateException> STATE = IllegalStateException.class;
    private static final Check check = new Check("SchemaTest");

    public static void main(String[] args) {
        newObject();
        numbersOfFields();
        ranges();
        requiredNumbers();
        fullTable();
        recordsMadeBefore();
        verifiedNoMore();
        check.end();
    }

    private static void newObject() {
        FlatStore x = new FlatStore();
        for (int what = 0; what < 5; what++) {
            int asked = what;
            check.due("new, count(" + what + ")", 0, () -> x.count(asked));
        }
        check.due("new, count(5)", -1, () -> x.count(5));
        check.due("new, fault()", -1, x::fault);
        check.refused("new, at(0)", IndexOutOfBoundsException.class, () -> x.at(0));
        check.refused("new, top()", STATE, x::top);
        check.refused("new, build(0)", java.util.NoSuchElementException.class, () -> x.build(0));
        check.refused("new, verify(0)", ARGUMENT, () -> x.verify(0));
        check.due("new, fault() behind verify", 0, x::fault);
        FlatStore y = new FlatStore();
        x.field(0, 0, 0, false);
        check.due("another object has no field", 0, () -> y.count(2));
        check.due("another object had no fault", -1, y::fault);
    }

    private static void numbersOfFields() {
        FlatStore x = new FlatStore();
        for (int table = 0; table < 4; table++) {
            for (int field = 0; field < 6; field++) {
                int t = table;
                int kind = (table + field) % 7;
                check.due("field(" + table + ", " + kind + ")", field, () -> x.field(t, kind, 1, false));
            }
        }
        check.due("fields in all", 24, () -> x.count(2));
    }

    private static void ranges() {
        int[][] good = {
            {0, 0, -128}, {0, 0, 127}, {0, 1, -32768}, {0, 1, 32767},
            {1, 2, Integer.MIN_VALUE}, {1, 2, Integer.MAX_VALUE},
            {1, 3, Integer.MIN_VALUE}, {1, 3, Integer.MAX_VALUE},
            {2, 4, Integer.MIN_VALUE}, {2, 4, 77}, {2, 5, Integer.MAX_VALUE}, {2, 5, -1},
            {3, 6, 0}, {3, 6, 3}};
        int[][] bad = {
            {-1, 0, 0}, {4, 0, 0}, {Integer.MIN_VALUE, 0, 0}, {Integer.MAX_VALUE, 0, 0},
            {0, -1, 0}, {0, 7, 0}, {0, Integer.MIN_VALUE, 0}, {0, Integer.MAX_VALUE, 0},
            {0, 0, -129}, {0, 0, 128}, {0, 0, 256}, {0, 1, -32769}, {0, 1, 32768}, {0, 1, 65536},
            {0, 6, -1}, {0, 6, 4}, {0, 6, Integer.MIN_VALUE}};
        FlatStore x = new FlatStore();
        int[] next = new int[4];
        for (int[] row : good) {
            check.due("good " + java.util.Arrays.toString(row), next[row[0]]++,
                () -> x.field(row[0], row[1], row[2], false));
        }
        for (int[] row : bad) {
            check.refused("bad " + java.util.Arrays.toString(row), ARGUMENT,
                () -> x.field(row[0], row[1], row[2], false));
        }
        check.due("the bad ones added nothing", good.length, () -> x.count(2));
    }

    private static void requiredNumbers() {
        FlatStore x = new FlatStore();
        for (int kind = 0; kind < 7; kind++) {
            int asked = kind;
            if (kind < 4) {
                check.refused("required of kind " + kind, ARGUMENT, () -> x.field(0, asked, 0, true));
            } else {
                check.due("required of kind " + kind, kind - 4, () -> x.field(0, asked, 0, true));
            }
        }
    }

    private static void fullTable() {
        FlatStore x = new FlatStore();
        for (int i = 0; i < 6; i++) {
            x.field(2, 2, 0, false);
        }
        check.refused("7th field", STATE, () -> x.field(2, 2, 0, false));
        check.refused("7th field of no kind", ARGUMENT, () -> x.field(2, 7, 0, false));
        check.refused("7th field, default too great", ARGUMENT, () -> x.field(2, 0, 128, false));
        check.refused("7th field, required number", ARGUMENT, () -> x.field(2, 0, 0, true));
        check.refused("7th field of no table", ARGUMENT, () -> x.field(2, 6, 4, false));
        check.due("another table has room", 0, () -> x.field(1, 2, 0, false));
        check.due("fields in all", 7, () -> x.count(2));
    }

    private static void recordsMadeBefore() {
        FlatStore x = new FlatStore();
        x.make(0);
        check.due("build without fields", 12, () -> x.build(0));
        x.field(0, 2, 3, false);
        check.due("nothing in the new field", 0, () -> x.unset(0, 0));
        x.field(0, 4, 0, true);
        check.refused("nothing in a new required field", STATE, () -> x.build(0));
        check.due("a number for it", 8, () -> x.number(0, 0, 8));
        x.fill(0, 1);
        check.due("build", 32, () -> x.build(0));
    }

    private static void verifiedNoMore() {
        FlatStore x = Sample.verified();
        check.refused("bad field", ARGUMENT, () -> x.field(0, 7, 0, false));
        check.due("still verified", 1, () -> x.count(4));
        check.due("a field of another table", 0, () -> x.field(3, 0, 0, false));
        check.due("not verified", 0, () -> x.count(4));
        check.refused("value", STATE, () -> x.value(0));
        check.due("a default of a field that the data does not know", 5, () -> x.field(0, 3, -6, false));
        check.due("verify", 2, () -> x.verify(0));
        check.due("default", -6, () -> x.value(5));
        check.refused("full", STATE, () -> x.field(0, 0, 0, false));
        check.due("verified", 1, () -> x.count(4));
    }
}
