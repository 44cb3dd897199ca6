import java.util.NoSuchElementException;

/** The terms of the schema, promises 1 (a new object) and 2 (field). */
public final class SchemaTest {
    private static final Class<IllegalArgumentException> ARGUMENT = IllegalArgumentException.class;
    private static final Class<IllegalStateException> STATE = IllegalStateException.class;
    private static final Class<NoSuchElementException> NO_SUCH = NoSuchElementException.class;
    private static final Class<IndexOutOfBoundsException> BOUNDS = IndexOutOfBoundsException.class;
    private static final int[] NO_TABLES = {-1, 4, Integer.MIN_VALUE, Integer.MAX_VALUE};
    private static final Check check = new Check("SchemaTest");

    public static void main(String[] args) {
        Runnable[] tests = {
            SchemaTest::tables, SchemaTest::fieldsOfATable, SchemaTest::kinds,
            SchemaTest::requiredOrNot, SchemaTest::newObject, SchemaTest::objectsApart,
            SchemaTest::fieldOfATable, SchemaTest::whatXIs, SchemaTest::outOfRange,
            SchemaTest::defaultsOutOfRange, SchemaTest::requiredNumbers, SchemaTest::fullTable,
            SchemaTest::recordsMadeBefore, SchemaTest::notVerifiedAnyMore};
        check.all(tests);
        check.end();
    }

    private static void tables() {
        check.sentence("Terms", "THE SCHEMA has TABLES 0 .. 3");
        FlatStore x = new FlatStore();
        for (int table = 0; table < 4; table++) {
            int t = table;
            check.due("the first field of table " + t, 0, () -> x.field(t, 0, t + 10, false));
            check.due("a record of table " + t, t, () -> x.make(t));
        }
        for (int table = 0; table < 4; table++) {
            int t = table;
            x.build(t);
            check.due("verify(" + t + ")", 1, () -> x.verify(t));
            check.due("the field is its own", t + 10, () -> x.value(0));
        }
        for (int table : NO_TABLES) {
            check.refused("field of table " + table, ARGUMENT, () -> x.field(table, 0, 0, false));
            check.refused("make(" + table + ")", ARGUMENT, () -> x.make(table));
            check.refused("verify(" + table + ")", ARGUMENT, () -> x.verify(table));
        }
    }

    private static void fieldsOfATable() {
        check.sentence("Terms", "each with up to 6 FIELDS, numbered from 0 as they are added");
        FlatStore x = new FlatStore();
        for (int field = 0; field < 6; field++) {
            for (int table = 0; table < 4; table++) {
                int t = table;
                check.due("field " + field + " of table " + t, field, () -> x.field(t, 0, 0, false));
            }
        }
        for (int table = 0; table < 4; table++) {
            int t = table;
            check.refused("a 7th field of table " + t, STATE, () -> x.field(t, 0, 0, false));
        }
        check.due("fields in all", 24, () -> x.count(2));
        x.make(3);
        for (int field = 0; field < 6; field++) {
            int f = field;
            check.due("the last table has field " + f, f, () -> x.number(0, f, f));
        }
        check.refused("and no more", NO_SUCH, () -> x.number(0, 6, 6));
    }

    /** A field alone lies behind the 4 bytes of its table, so that the size tells how wide it is. */
    private static void kinds() {
        check.sentence("Terms", "each of a KIND: 0 BYTE, 1 SHORT, 2 INT, 3 LONG, of 1, 2, 4, 8 bytes, "
            + "with a DEFAULT; 4 TEXT; 5 ROW, of shorts; 6 TABLE, with the number of a table");
        int[] sizes = {20, 20, 20, 24};
        int[] offsets = {7, 6, 4, 4};
        for (int kind = 0; kind < 4; kind++) {
            FlatStore x = new FlatStore();
            int k = kind;
            check.due("kind " + k, 0, () -> x.field(0, k, 0, false));
            x.make(0);
            x.number(0, 0, -1);
            check.due("bytes with kind " + k, sizes[k], () -> x.build(0));
            check.due("offset of kind " + k, offsets[k], () -> x.at(x.at(0) - 2));
        }
        FlatStore y = new FlatStore();
        for (int kind = 4; kind < 7; kind++) {
            int k = kind;
            check.due("kind " + k, k - 4, () -> y.field(1, k, 2, false));
        }
        y.make(2);
        y.make(1);
        Sample.addAll(y, 200);
        y.fill(1, 0);
        Sample.addAll(y, 200);
        y.fill(1, 1);
        y.link(1, 2, 0);
        y.build(1);
        check.due("a text, a row and a table", 2, () -> y.verify(1));
        check.due("a text has characters", 72, () -> y.element(0, 0));
        check.due("a row has shorts", 200, () -> y.element(1, 0));
        check.due("a table is there", 1, () -> y.down(2));
        check.due("it is of the table of the field", 2, () -> y.count(5));
        for (int kind : new int[] {-1, 7, Integer.MIN_VALUE, Integer.MAX_VALUE}) {
            check.refused("kind " + kind, ARGUMENT, () -> y.field(0, kind, 0, false));
        }
    }

    private static void requiredOrNot() {
        check.sentence("Terms", "a field of kind 4 to 6 is REQUIRED or not");
        for (int kind = 4; kind < 7; kind++) {
            int k = kind;
            FlatStore x = new FlatStore();
            check.due("not required, kind " + k, 0, () -> x.field(0, k, 1, false));
            check.due("required, kind " + k, 0, () -> x.field(1, k, 1, true));
            x.make(0);
            x.make(1);
            check.due("nothing where nothing is required, kind " + k, 12, () -> x.build(0));
            check.refused("nothing where it is required, kind " + k, STATE, () -> x.build(1));
            check.due("verified without, kind " + k, 1, () -> x.verify(0));
            check.refused("not verified without, kind " + k, ARGUMENT, () -> x.verify(1));
        }
    }

    private static void newObject() {
        check.sentence("Promise 1", "makes an object in the state that the terms give.");
        FlatStore x = new FlatStore();
        for (int what = 0; what < 5; what++) {
            int asked = what;
            check.due("new, count(" + what + ")", 0, () -> x.count(asked));
        }
        check.due("new, count(5)", -1, () -> x.count(5));
        check.due("new, fault()", -1, x::fault);
        check.refused("new, number", NO_SUCH, () -> x.number(0, 0, 0));
        check.refused("new, fill", NO_SUCH, () -> x.fill(0, 0));
        check.refused("new, link", NO_SUCH, () -> x.link(0, 0, 0));
        check.refused("new, unset", NO_SUCH, () -> x.unset(0, 0));
        check.refused("new, build(0)", NO_SUCH, () -> x.build(0));
        check.refused("new, at(0)", BOUNDS, () -> x.at(0));
        check.refused("new, patch(0)", BOUNDS, () -> x.patch(0, 0));
        check.refused("new, cut(1)", BOUNDS, () -> x.cut(1));
        check.due("new, cut(0)", 0, () -> x.cut(0));
        check.refused("new, top()", STATE, x::top);
        check.refused("new, down(0)", STATE, () -> x.down(0));
        check.refused("new, value(0)", STATE, () -> x.value(0));
        check.refused("new, size(0)", STATE, () -> x.size(0));
        check.refused("new, element(0, 0)", STATE, () -> x.element(0, 0));
        check.refused("new, verify(0)", ARGUMENT, () -> x.verify(0));
        check.due("new, fault() behind verify", 0, x::fault);
        check.due("new, add(0)", 1, () -> x.add(0));
        check.due("new, make(0)", 0, () -> x.make(0));
        check.due("new, field", 0, () -> x.field(0, 0, 0, false));
    }

    private static void objectsApart() {
        check.sentence("Promise 1", "makes an object in the state that the terms give.");
        FlatStore x = Sample.verified();
        x.add(1);
        FlatStore y = new FlatStore();
        for (int what = 0; what < 5; what++) {
            int asked = what;
            check.due("another one, count(" + what + ")", 0, () -> y.count(asked));
        }
        check.refused("verify", ARGUMENT, () -> y.verify(0));
        y.make(3);
        y.build(0);
        check.bytes("what the other one does changes nothing", x, Sample.builtBytes());
        check.due("nor the verifying", 1, () -> x.count(4));
        check.due("nor the fault", -1, x::fault);
    }

    private static void fieldOfATable() {
        check.sentence("Promise 2", "Adds a field to a table (0 .. 3)");
        FlatStore x = new FlatStore();
        for (int table = 3; table >= 0; table--) {
            int t = table;
            check.due("a field of table " + t, 0, () -> x.field(t, 2, 0, false));
            check.due("another one of table " + t, 1, () -> x.field(t, 2, 0, false));
        }
        for (int table : NO_TABLES) {
            check.refused("a field of table " + table, ARGUMENT, () -> x.field(table, 2, 0, false));
        }
        check.due("fields in all", 8, () -> x.count(2));
    }

    private static void whatXIs() {
        check.sentence("Promise 2", "x is the default, or for kind 6 the table "
            + "(for 4 and 5 it may be anything); answers its number.");
        int[][] good = {
            {0, 0, -128}, {0, 0, 127}, {0, 1, -32768}, {0, 1, 32767},
            {1, 2, Integer.MIN_VALUE}, {1, 2, Integer.MAX_VALUE},
            {1, 3, Integer.MIN_VALUE}, {1, 3, Integer.MAX_VALUE},
            {2, 4, Integer.MIN_VALUE}, {2, 4, Integer.MAX_VALUE}, {2, 4, -1},
            {2, 5, Integer.MIN_VALUE}, {2, 5, Integer.MAX_VALUE}, {2, 5, 4},
            {3, 6, 0}, {3, 6, 1}, {3, 6, 2}, {3, 6, 3}};
        FlatStore x = new FlatStore();
        int[] next = new int[4];
        for (int[] row : good) {
            check.due("x " + java.util.Arrays.toString(row), next[row[0]]++,
                () -> x.field(row[0], row[1], row[2], false));
        }
        for (int table = 0; table < 4; table++) {
            x.make(table);
        }
        x.make(3);
        for (int table = 0; table < 2; table++) {
            x.build(table);
            x.verify(table);
            for (int i = 0; i < 4; i++) {
                int f = i;
                check.due("default", good[4 * table + f][2], () -> x.value(f));
            }
        }
        for (int table = 0; table < 4; table++) {
            int t = table;
            check.due("a link to table " + t, 1, () -> x.link(4, t, t));
            check.refused("a link to another", UnsupportedOperationException.class,
                () -> x.link(4, t, (t + 1) % 4));
        }
    }

    private static void outOfRange() {
        check.sentence("Promise 2", "IllegalArgumentException: out of range,");
        int[][] bad = {
            {-1, 0, 0}, {4, 0, 0}, {Integer.MIN_VALUE, 0, 0}, {Integer.MAX_VALUE, 0, 0},
            {0, -1, 0}, {0, 7, 0}, {0, Integer.MIN_VALUE, 0}, {0, Integer.MAX_VALUE, 0},
            {0, 6, -1}, {0, 6, 4}, {0, 6, Integer.MIN_VALUE}, {0, 6, Integer.MAX_VALUE}};
        allRefused(bad);
    }

    private static void allRefused(int[][] bad) {
        FlatStore x = new FlatStore();
        for (int[] row : bad) {
            check.refused("bad " + java.util.Arrays.toString(row), ARGUMENT,
                () -> x.field(row[0], row[1], row[2], false));
        }
        check.due("the bad ones added nothing", 0, () -> x.count(2));
        check.due("the next one is the first", 0, () -> x.field(0, 0, 0, false));
    }

    private static void defaultsOutOfRange() {
        check.sentence("Promise 2", "a default out of the kind's range (that of an int for 3),");
        int[][] bad = {
            {0, 0, -129}, {0, 0, 128}, {0, 0, 255}, {0, 0, 256}, {0, 0, Integer.MIN_VALUE},
            {0, 1, -32769}, {0, 1, 32768}, {0, 1, 65535}, {0, 1, 65536}, {0, 1, Integer.MAX_VALUE}};
        allRefused(bad);
        FlatStore x = new FlatStore();
        int[][] good = {{0, -128}, {0, 127}, {1, -32768}, {1, 32767}, {3, Integer.MIN_VALUE},
            {3, Integer.MAX_VALUE}};
        x.make(0);
        for (int i = 0; i < good.length; i++) {
            int f = i;
            check.due("just in range", f, () -> x.field(0, good[f][0], good[f][1], false));
        }
        x.build(0);
        x.verify(0);
        for (int i = 0; i < good.length; i++) {
            int f = i;
            check.due("the default is kept", good[f][1], () -> x.value(f));
        }
    }

    private static void requiredNumbers() {
        check.sentence("Promise 2", "or required for a number.");
        FlatStore x = new FlatStore();
        for (int kind = 0; kind < 4; kind++) {
            int k = kind;
            check.refused("required of kind " + k, ARGUMENT, () -> x.field(0, k, 0, true));
        }
        check.due("none was added", 0, () -> x.count(2));
        for (int kind = 4; kind < 7; kind++) {
            int k = kind;
            check.due("required of kind " + k, k - 4, () -> x.field(0, k, 0, true));
        }
    }

    private static void fullTable() {
        check.sentence("Promise 2", "IllegalStateException: the table has 6 fields.");
        FlatStore x = new FlatStore();
        for (int i = 0; i < 6; i++) {
            int f = i;
            check.due("field " + f, f, () -> x.field(2, 2, 0, false));
        }
        for (int kind = 0; kind < 7; kind++) {
            int k = kind;
            check.refused("7th field, of kind " + k, STATE, () -> x.field(2, k, 0, false));
        }
        check.due("another table has room", 0, () -> x.field(1, 2, 0, false));
        check.due("the one behind it too", 0, () -> x.field(3, 2, 0, false));
        check.due("fields in all", 8, () -> x.count(2));
    }

    private static void recordsMadeBefore() {
        check.sentence("Promise 2", "Records made before have nothing in it;");
        FlatStore x = new FlatStore();
        for (int i = 0; i < 16; i++) {
            x.make(0);
        }
        check.due("build without fields", 12, () -> x.build(15));
        x.field(0, 2, 3, false);
        for (int i = 0; i < 16; i++) {
            int record = i;
            check.due("nothing in the new field of " + i, 0, () -> x.unset(record, 0));
        }
        check.due("the default is not put", 12, () -> x.build(15));
        check.due("a number for it", 8, () -> x.number(15, 0, 8));
        x.field(0, 4, 0, true);
        check.due("nothing in the next one", 0, () -> x.unset(15, 1));
        check.refused("not in a required one either", STATE, () -> x.build(15));
        x.fill(15, 1);
        check.due("build", 32, () -> x.build(15));
        x.verify(0);
        check.due("the number stayed", 8, () -> x.value(0));
    }

    private static void notVerifiedAnyMore() {
        check.sentence("Promise 2", "the data is not verified any more.");
        for (int table = 0; table < 4; table++) {
            FlatStore x = Sample.verified();
            int t = table;
            x.field(t, 0, 0, false);
            check.due("a field of table " + t, 0, () -> x.count(4));
            check.refused("a field of table " + t, STATE, x::top);
        }
        FlatStore x = Sample.verified();
        check.refused("bad field", ARGUMENT, () -> x.field(0, 7, 0, false));
        check.due("still verified", 1, () -> x.count(4));
        check.due("a field that the data does not know", 5, () -> x.field(0, 3, -6, false));
        check.due("verify", 2, () -> x.verify(0));
        check.due("its default", -6, () -> x.value(5));
        check.refused("full", STATE, () -> x.field(0, 0, 0, false));
        check.due("still verified", 1, () -> x.count(4));
        check.due("the data itself stays", 80, () -> x.count(0));
    }
}
