/** Promises 10 (at), 11 (patch), 12 (cut) and 20 (count). */
public final class DataTest {
    private static final Class<IllegalArgumentException> ARGUMENT = IllegalArgumentException.class;
    private static final Class<IndexOutOfBoundsException> BOUNDS = IndexOutOfBoundsException.class;
    private static final int[] FAR = {-1, 240, 241, Integer.MIN_VALUE, Integer.MAX_VALUE};
    private static final Check check = new Check("DataTest");

    public static void main(String[] args) {
        Runnable[] tests = {
            DataTest::at, DataTest::atNone, DataTest::patch, DataTest::patchNone, DataTest::cut,
            DataTest::cutAndBuild, DataTest::cutOutside, DataTest::bytesOfData, DataTest::records,
            DataTest::fields, DataTest::numbersInTheBuffer, DataTest::verified,
            DataTest::tableAtTheCursor, DataTest::otherCounts};
        check.all(tests);
        check.end();
    }

    private static void at() {
        check.sentence("Promise 10", "The byte of the data at an address, 0 .. 255.");
        FlatStore x = Sample.verified();
        check.bytes("all of them", x, Sample.builtBytes());
        check.due("at leaves the data verified", 1, () -> x.count(4));
        FlatStore y = Sample.full();
        for (int number : new int[] {0, 127, 128, 255}) {
            y.patch(0, number);
            y.patch(239, number);
            check.due("the first one", number, () -> y.at(0));
            check.due("the last one of all", number, () -> y.at(239));
        }
    }

    private static void atNone() {
        check.sentence("Promise 10", "IndexOutOfBoundsException: there is none.");
        FlatStore x = Sample.verified();
        check.due("the last one", 0, () -> x.at(79));
        check.refused("at(80)", BOUNDS, () -> x.at(80));
        FlatStore y = Sample.full();
        FlatStore z = new FlatStore();
        for (int address : FAR) {
            check.refused("of 80, at(" + address + ")", BOUNDS, () -> x.at(address));
            check.refused("of 240, at(" + address + ")", BOUNDS, () -> y.at(address));
            check.refused("of none, at(" + address + ")", BOUNDS, () -> z.at(address));
        }
        check.refused("of none, at(0)", BOUNDS, () -> z.at(0));
        y.cut(1);
        check.due("of one, at(0)", 20, () -> y.at(0));
        check.refused("of one, at(1)", BOUNDS, () -> y.at(1));
        y.cut(0);
        check.refused("of none any more, at(0)", BOUNDS, () -> y.at(0));
    }

    private static void patch() {
        check.sentence("Promise 11", "Sets a byte of the data to the lowest 8 bits of value; answers what "
            + "it was.");
        FlatStore x = Sample.verified();
        int[] values = {-2, 255, 256, 257, -256, 511, 127, 128, -128, -129, Integer.MIN_VALUE,
            Integer.MAX_VALUE, 3};
        int[] kept = {254, 255, 0, 1, 0, 255, 127, 128, 128, 127, 0, 255, 3};
        int was = 255;
        for (int i = 0; i < values.length; i++) {
            int value = values[i];
            check.due("what it was", was, () -> x.patch(70, value));
            check.due("lowest bits of " + value, kept[i], () -> x.at(70));
            was = kept[i];
        }
        check.due("the byte before", 0, () -> x.at(69));
        check.due("the byte behind", 255, () -> x.at(71));
        check.due("verify", 2, () -> x.verify(0));
        check.due("seen by the reading", -253, () -> x.element(2, 1));
        check.due("the same byte again", 3, () -> x.patch(70, 3));
        check.due("ends the verifying too", 0, () -> x.count(4));
        check.due("the first one", 20, () -> x.patch(0, 9));
        check.due("the first one", 9, () -> x.at(0));
        check.due("the last one", 0, () -> x.patch(79, 9));
        check.due("the last one", 9, () -> x.at(79));
    }

    private static void patchNone() {
        check.sentence("Promise 11", "IndexOutOfBoundsException: there is none.");
        FlatStore x = Sample.verified();
        FlatStore y = Sample.full();
        FlatStore z = new FlatStore();
        for (int address : FAR) {
            check.refused("of 80, patch(" + address + ")", BOUNDS, () -> x.patch(address, 1));
            check.refused("of 240, patch(" + address + ")", BOUNDS, () -> y.patch(address, 1));
            check.refused("of none, patch(" + address + ")", BOUNDS, () -> z.patch(address, 1));
        }
        check.refused("patch(80)", BOUNDS, () -> x.patch(80, 1));
        check.refused("of none, patch(0)", BOUNDS, () -> z.patch(0, 1));
        check.due("still verified", 1, () -> x.count(4));
        check.bytes("still the same", x, Sample.builtBytes());
        x.cut(79);
        check.refused("patch(79) of 79", BOUNDS, () -> x.patch(79, 1));
        check.due("patch(78) of 79", 0, () -> x.patch(78, 1));
    }

    private static void cut() {
        check.sentence("Promise 12", "Leaves only the first n bytes of the data; answers how many went.");
        FlatStore x = Sample.verified();
        check.due("nothing goes", 0, () -> x.cut(80));
        check.bytes("all are left", x, Sample.builtBytes());
        check.due("not verified, though nothing went", 0, () -> x.count(4));
        check.due("one goes", 1, () -> x.cut(79));
        check.due("79 are left", 79, () -> x.count(0));
        check.due("29 go", 29, () -> x.cut(50));
        check.bytes("50 are left", x, java.util.Arrays.copyOf(Sample.builtBytes(), 50));
        check.refused("none is behind", BOUNDS, () -> x.at(50));
        check.due("all but one", 49, () -> x.cut(1));
        check.due("that one is the first", 20, () -> x.at(0));
        check.due("all", 1, () -> x.cut(0));
        check.due("none is left", 0, () -> x.count(0));
        check.due("nothing of nothing", 0, () -> x.cut(0));
        FlatStore y = Sample.full();
        check.due("nothing of 240", 0, () -> y.cut(240));
        check.due("240 go", 240, () -> y.cut(0));
    }

    private static void cutAndBuild() {
        check.sentence("Promise 12", "Leaves only the first n bytes of the data; answers how many went.");
        FlatStore x = Sample.built();
        x.patch(10, 77);
        x.cut(5);
        x.build(1);
        check.bytes("whole again", x, Sample.builtBytes());
    }

    private static void cutOutside() {
        check.sentence("Promise 12", "IndexOutOfBoundsException: n not 0 .. the size.");
        FlatStore x = Sample.verified();
        FlatStore y = Sample.full();
        FlatStore z = new FlatStore();
        for (int n : new int[] {-1, 241, Integer.MIN_VALUE, Integer.MAX_VALUE}) {
            check.refused("of 80, cut(" + n + ")", BOUNDS, () -> x.cut(n));
            check.refused("of 240, cut(" + n + ")", BOUNDS, () -> y.cut(n));
            check.refused("of none, cut(" + n + ")", BOUNDS, () -> z.cut(n));
        }
        check.refused("of 80, cut(81)", BOUNDS, () -> x.cut(81));
        check.refused("of none, cut(1)", BOUNDS, () -> z.cut(1));
        check.due("still verified", 1, () -> x.count(4));
        check.due("still 80", 80, () -> x.count(0));
        check.due("cut(80) of 80", 0, () -> x.cut(80));
        check.due("cut(50) of 80", 30, () -> x.cut(50));
        check.refused("what went is gone: cut(51)", BOUNDS, () -> x.cut(51));
        check.due("cut(0) of 50", 50, () -> x.cut(0));
        check.due("cut(240) of 240", 0, () -> y.cut(240));
        check.due("cut(0) of none", 0, () -> z.cut(0));
    }

    private static void bytesOfData() {
        check.sentence("Promise 20", "Bytes of data (0)");
        FlatStore x = new FlatStore();
        check.due("none", 0, () -> x.count(0));
        x.make(0);
        check.due("a record is no data", 0, () -> x.count(0));
        x.build(0);
        check.due("12", 12, () -> x.count(0));
        x.cut(1);
        check.due("1", 1, () -> x.count(0));
        x.cut(0);
        check.due("none again", 0, () -> x.count(0));
        FlatStore y = Sample.full();
        check.due("240", 240, () -> y.count(0));
    }

    private static void records() {
        check.sentence("Promise 20", "records (1)");
        FlatStore x = new FlatStore();
        for (int made = 0; made < 16; made++) {
            check.due(made + " records", made, () -> x.count(1));
            x.make(made % 4);
        }
        check.due("16 records", 16, () -> x.count(1));
        Check.told(() -> x.make(0));
        check.due("no more than 16", 16, () -> x.count(1));
    }

    private static void fields() {
        check.sentence("Promise 20", "fields of all tables (2)");
        FlatStore x = new FlatStore();
        for (int added = 0; added < 24; added++) {
            check.due(added + " fields", added, () -> x.count(2));
            x.field(3 - added % 4, added % 4, 0, false);
        }
        check.due("24 fields", 24, () -> x.count(2));
        Check.told(() -> x.field(0, 0, 0, false));
        check.due("no more than 24", 24, () -> x.count(2));
    }

    private static void numbersInTheBuffer() {
        check.sentence("Promise 20", "numbers in the buffer (3)");
        FlatStore x = new FlatStore();
        x.field(0, 4, 0, false);
        x.make(0);
        for (int held = 0; held < 12; held++) {
            check.due(held + " numbers", held, () -> x.count(3));
            x.add(0);
        }
        check.due("12 numbers", 12, () -> x.count(3));
        Check.told(() -> x.add(0));
        check.due("no more than 12", 12, () -> x.count(3));
        x.fill(0, 0);
        check.due("none again", 0, () -> x.count(3));
    }

    private static void verified() {
        check.sentence("Promise 20", "1 if the data is verified (4)");
        FlatStore x = Sample.built();
        check.due("not yet", 0, () -> x.count(4));
        x.verify(0);
        check.due("verified", 1, () -> x.count(4));
        x.down(3);
        check.due("verified below", 1, () -> x.count(4));
        x.cut(80);
        check.due("not any more", 0, () -> x.count(4));
        x.cut(3);
        Check.told(() -> x.verify(0));
        check.due("not with a fault", 0, () -> x.count(4));
    }

    private static void tableAtTheCursor() {
        check.sentence("Promise 20", "the table at the cursor, -1 if it is not verified (5).");
        FlatStore x = Sample.built();
        check.due("not verified yet", -1, () -> x.count(5));
        x.verify(0);
        check.due("the first one", 0, () -> x.count(5));
        x.down(3);
        check.due("the one below", 1, () -> x.count(5));
        x.cut(80);
        check.due("not verified any more", -1, () -> x.count(5));
        for (int table : new int[] {3, 2, 0}) {
            x.verify(table);
            check.due("the table it was verified for", table, () -> x.count(5));
        }
        x.cut(3);
        Check.told(() -> x.verify(2));
        check.due("not with a fault", -1, () -> x.count(5));
    }

    private static void otherCounts() {
        check.sentence("Promise 20", "IllegalArgumentException: another number.");
        FlatStore x = Sample.verified();
        x.add(1);
        for (int what : new int[] {-1, 6, 7, Integer.MIN_VALUE, Integer.MAX_VALUE}) {
            check.refused("count(" + what + ")", ARGUMENT, () -> x.count(what));
        }
        int[] counts = {80, 2, 6, 1, 1, 0};
        for (int what = 0; what < 6; what++) {
            int asked = what;
            check.due("count(" + what + ")", counts[what], () -> x.count(asked));
        }
    }
}
