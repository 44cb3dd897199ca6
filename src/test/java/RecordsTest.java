import java.util.NoSuchElementException;

/** The terms of records, promises 3 (make), 4 (number), 5 (add), 6 (fill), 7 (link) and 8 (unset). */
public final class RecordsTest {
    private static final Class<IllegalArgumentException> ARGUMENT = IllegalArgumentException.class;
    private static final Class<IllegalStateException> STATE = IllegalStateException.class;
    private static final Class<NoSuchElementException> NO_SUCH = NoSuchElementException.class;
    private static final Class<UnsupportedOperationException> UNSUPPORTED =
        UnsupportedOperationException.class;
    private static final int[][] NO_FIELDS = {
        {-1, 0}, {2, 0}, {15, 0}, {16, 0}, {Integer.MIN_VALUE, 0}, {Integer.MAX_VALUE, 0},
        {1, -1}, {1, 6}, {1, 7}, {1, Integer.MIN_VALUE}, {1, Integer.MAX_VALUE}, {0, 0},
        {Integer.MAX_VALUE, Integer.MAX_VALUE}, {Integer.MIN_VALUE, Integer.MIN_VALUE}};
    private static final int[] NO_RECORDS = {-1, 1, 2, 15, 16, Integer.MIN_VALUE, Integer.MAX_VALUE};
    private static final Check check = new Check("RecordsTest");

    public static void main(String[] args) {
        Runnable[] tests = {
            RecordsTest::numbersOfRecords, RecordsTest::nothingAtFirst, RecordsTest::lowestBits,
            RecordsTest::textsFromNoneToTwelve, RecordsTest::rowsFromNoneToEight,
            RecordsTest::linksToLowerOnes, RecordsTest::make, RecordsTest::makeOfNoTable,
            RecordsTest::makeTooMany, RecordsTest::number, RecordsTest::numbersApart,
            RecordsTest::numberNoSuch, RecordsTest::numberOfAnotherKind, RecordsTest::add,
            RecordsTest::addTooMany, RecordsTest::fill, RecordsTest::fillAgain,
            RecordsTest::fillNoSuch, RecordsTest::fillOfAnotherKind, RecordsTest::link,
            RecordsTest::linkNoSuch, RecordsTest::linkOfAnotherKind, RecordsTest::unset,
            RecordsTest::unsetNoSuch};
        check.all(tests);
        check.end();
    }

    /** Table 1 has these kinds; record 0 is of table 0, which has no field, and record 1 of table 1. */
    private static FlatStore withKinds(int... kinds) {
        FlatStore x = new FlatStore();
        for (int kind : kinds) {
            x.field(1, kind, 0, false);
        }
        x.make(0);
        x.make(1);
        return x;
    }

    /** Only record 0 was made; one more of its table would have the field too. */
    private static FlatStore oneRecord(int kind) {
        FlatStore x = new FlatStore();
        x.field(0, kind, 0, false);
        x.make(0);
        return x;
    }

    private static void numbersOfRecords() {
        check.sentence("Terms", "RECORDS are numbered 0, 1, .. as they are made, at most 16, each of a "
            + "table.");
        FlatStore x = new FlatStore();
        for (int table = 0; table < 4; table++) {
            for (int i = 0; i <= table; i++) {
                x.field(table, 0, 0, false);
            }
        }
        for (int i = 0; i < 16; i++) {
            int table = i * 3 % 4;
            check.due("record " + i, i, () -> x.make(table));
        }
        check.refused("a 17th", STATE, () -> x.make(0));
        check.due("how many there are", 16, () -> x.count(1));
        for (int i = 0; i < 16; i++) {
            int record = i;
            int last = i * 3 % 4;
            check.due("the last field of record " + i, 1, () -> x.number(record, last, 1));
            check.refused("one more", NO_SUCH, () -> x.number(record, last + 1, 1));
        }
    }

    private static void nothingAtFirst() {
        check.sentence("Terms", "A field of it has nothing (at first)");
        FlatStore x = new FlatStore();
        for (int kind = 1; kind < 7; kind++) {
            x.field(0, kind, kind == 6 ? 0 : 3, false);
        }
        for (int i = 0; i < 16; i++) {
            x.make(0);
        }
        check.due("build the last one", 12, () -> x.build(15));
        x.verify(0);
        for (int field = 0; field < 3; field++) {
            int f = field;
            check.due("the default", 3, () -> x.value(f));
        }
        check.due("no text", -1, () -> x.size(3));
        check.due("no row", -1, () -> x.size(4));
        check.due("no link", 0, () -> x.down(5));
        for (int slot = 0; slot < 96; slot++) {
            int record = slot / 6;
            int field = slot % 6;
            check.due("record " + record + ", field " + field, 0, () -> x.unset(record, field));
        }
    }

    private static void lowestBits() {
        check.sentence("Terms", "a number, which is brought into its range by its lowest bits");
        FlatStore x = withKinds(0, 1, 2, 3);
        long[][] rows = {
            {127, 127, 127, 127, 127}, {128, -128, 128, 128, 128}, {-128, -128, -128, -128, -128},
            {-129, 127, -129, -129, -129}, {255, -1, 255, 255, 255}, {256, 0, 256, 256, 256},
            {32767, -1, 32767, 32767, 32767}, {32768, 0, -32768, 32768, 32768},
            {-32768, 0, -32768, -32768, -32768}, {-32769, -1, 32767, -32769, -32769},
            {65535, -1, -1, 65535, 65535}, {65536, 0, 0, 65536, 65536},
            {2147483647L, -1, -1, 2147483647L, 2147483647L},
            {2147483648L, 0, 0, -2147483648L, 2147483648L},
            {-2147483648L, 0, 0, -2147483648L, -2147483648L},
            {-2147483649L, -1, -1, 2147483647L, -2147483649L},
            {4294967295L, -1, -1, -1, 4294967295L}, {4294967296L, 0, 0, 0, 4294967296L},
            {Long.MAX_VALUE, -1, -1, -1, Long.MAX_VALUE}, {Long.MIN_VALUE, 0, 0, 0, Long.MIN_VALUE}};
        for (long[] row : rows) {
            for (int kind = 0; kind < 4; kind++) {
                int k = kind;
                check.due("kind " + k + ", " + row[0], row[k + 1], () -> x.number(1, k, row[0]));
            }
        }
    }

    private static void textsFromNoneToTwelve() {
        check.sentence("Terms", "a text of 0 to 12 characters");
        for (int length = 0; length < 13; length++) {
            FlatStore x = withKinds(4);
            Sample.text(x, 1, 0, length);
            x.build(1);
            x.verify(1);
            check.due("size of " + length, length, () -> x.size(0));
            for (int i = 0; i < length; i++) {
                int index = i;
                check.due("character " + i + " of " + length, 'a' + i, () -> x.element(0, index));
            }
        }
        FlatStore y = withKinds(4);
        Sample.text(y, 1, 0, 12);
        for (int i = 0; i < 12; i++) {
            y.add(1);
        }
        check.refused("there is no 13th", STATE, () -> y.add(1));
        check.due("12 in the place of 12", 12, () -> y.fill(1, 0));
    }

    private static void rowsFromNoneToEight() {
        check.sentence("Terms", "a row of 0 to 8 shorts");
        for (int length = 0; length < 13; length++) {
            FlatStore x = withKinds(5);
            int held = length;
            for (int i = 0; i < length; i++) {
                x.add(-1000 * i);
            }
            if (length > 8) {
                check.refused("a row of " + length, UNSUPPORTED, () -> x.fill(1, 0));
                check.due("it has nothing", 0, () -> x.unset(1, 0));
                continue;
            }
            check.due("a row of " + length, held, () -> x.fill(1, 0));
            x.build(1);
            x.verify(1);
            check.due("size of " + length, held, () -> x.size(0));
            for (int i = 0; i < length; i++) {
                int index = i;
                check.due("short " + i + " of " + length, -1000 * i, () -> x.element(0, index));
            }
        }
    }

    private static void linksToLowerOnes() {
        check.sentence("Terms", "a LINK to a record of the field's table with a lower number.");
        FlatStore x = new FlatStore();
        x.field(0, 6, 0, false);
        for (int i = 0; i < 16; i++) {
            x.make(0);
        }
        check.due("the highest to the lowest", 1, () -> x.link(15, 0, 0));
        check.due("the highest to the next", 1, () -> x.link(15, 0, 14));
        check.due("the second to the first", 1, () -> x.link(1, 0, 0));
        for (int i = 0; i < 16; i++) {
            int record = i;
            check.refused(i + " to itself", UNSUPPORTED, () -> x.link(record, 0, record));
            if (i < 15) {
                check.refused(i + " to the next higher", UNSUPPORTED, () -> x.link(record, 0, record + 1));
                check.refused(i + " to the highest", UNSUPPORTED, () -> x.link(record, 0, 15));
            }
        }
    }

    private static void make() {
        check.sentence("Promise 3", "Makes a record of a table; answers its number.");
        FlatStore x = new FlatStore();
        for (int i = 0; i < 16; i++) {
            int table = 3 - i % 4;
            check.due("make " + i, i, () -> x.make(table));
            check.due("how many there are", i + 1, () -> x.count(1));
        }
        FlatStore y = Sample.verified();
        check.due("a record without a field", 2, () -> y.make(3));
        check.due("verified data stays verified", 1, () -> y.count(4));
    }

    private static void makeOfNoTable() {
        check.sentence("Promise 3", "IllegalArgumentException: table not 0 .. 3.");
        FlatStore x = new FlatStore();
        for (int table : new int[] {-1, 4, Integer.MIN_VALUE, Integer.MAX_VALUE}) {
            check.refused("make(" + table + ")", ARGUMENT, () -> x.make(table));
        }
        check.due("none was made", 0, () -> x.count(1));
        check.due("make(0)", 0, () -> x.make(0));
        check.due("make(3)", 1, () -> x.make(3));
    }

    private static void makeTooMany() {
        check.sentence("Promise 3", "IllegalStateException: 16 were made.");
        FlatStore x = new FlatStore();
        for (int i = 0; i < 15; i++) {
            x.make(0);
        }
        check.due("the 16th", 15, () -> x.make(1));
        for (int table = 0; table < 4; table++) {
            int t = table;
            check.refused("the 17th, of table " + t, STATE, () -> x.make(t));
        }
        check.due("16 there are", 16, () -> x.count(1));
        check.due("the last one is there", 12, () -> x.build(15));
        check.refused("no other one is", NO_SUCH, () -> x.build(16));
    }

    private static void number() {
        check.sentence("Promise 4", "Gives a field a number; answers the number kept.");
        FlatStore x = withKinds(0, 1, 2, 3);
        check.due("a byte", -1, () -> x.number(1, 0, 255));
        check.due("a short", 32767, () -> x.number(1, 1, -32769));
        check.due("an int", Integer.MIN_VALUE, () -> x.number(1, 2, 2147483648L));
        check.due("a long", Long.MIN_VALUE, () -> x.number(1, 3, Long.MIN_VALUE));
        x.build(1);
        x.verify(1);
        check.due("the byte kept", -1, () -> x.value(0));
        check.due("the short kept", 32767, () -> x.value(1));
        check.due("the int kept", Integer.MIN_VALUE, () -> x.value(2));
        check.due("the long kept", Long.MIN_VALUE, () -> x.value(3));
        check.due("0 for the byte", 0, () -> x.number(1, 0, 256));
        check.due("0 for the short", 0, () -> x.number(1, 1, 65536));
        check.due("0 for the int", 0, () -> x.number(1, 2, 4294967296L));
        check.due("0 for the long", 0, () -> x.number(1, 3, 0));
        check.due("the data is as it was", Long.MIN_VALUE, () -> x.value(3));
        check.due("verified data stays verified", 1, () -> x.count(4));
        check.due("the defaults are kept, which are not put", 12, () -> x.build(1));
    }

    private static void numbersApart() {
        check.sentence("Promise 4", "Gives a field a number; answers the number kept.");
        FlatStore x = withKinds(3, 3);
        x.make(1);
        x.number(1, 0, 10);
        x.number(1, 1, 11);
        x.number(2, 0, 20);
        x.number(1, 0, 12);
        x.build(1);
        x.verify(1);
        check.due("the later number", 12, () -> x.value(0));
        check.due("the other field", 11, () -> x.value(1));
        x.build(2);
        x.verify(1);
        check.due("the other record", 20, () -> x.value(0));
        check.due("nothing there", 0, () -> x.value(1));
    }

    private static void numberNoSuch() {
        check.sentence("Promise 4", "NoSuchElementException: no such record or field.");
        FlatStore x = withKinds(0, 1, 2, 3, 2, 2);
        for (int[] row : NO_FIELDS) {
            check.refused("record " + row[0] + ", field " + row[1], NO_SUCH,
                () -> x.number(row[0], row[1], 1));
        }
        check.due("the last field", 1, () -> x.number(1, 5, 1));
        x.make(1);
        check.due("the record made now", 1, () -> x.number(2, 0, 1));
        FlatStore y = oneRecord(0);
        for (int record : NO_RECORDS) {
            check.refused("record " + record + " of one", NO_SUCH, () -> y.number(record, 0, 1));
        }
        check.refused("field 1 of one", NO_SUCH, () -> y.number(0, 1, 1));
        check.due("record 0 of one", 1, () -> y.number(0, 0, 1));
    }

    private static void numberOfAnotherKind() {
        check.sentence("Promise 4", "UnsupportedOperationException: it is of another kind.");
        FlatStore x = withKinds(4, 5, 6);
        for (int field = 0; field < 3; field++) {
            int f = field;
            check.refused("kind " + (4 + f), UNSUPPORTED, () -> x.number(1, f, 1));
            check.due("it has nothing still", 0, () -> x.unset(1, f));
        }
    }

    private static void add() {
        check.sentence("Promise 5", "Adds a number to the buffer, brought into the range of a short; "
            + "answers how many it holds (at most 12).");
        FlatStore x = withKinds(5, 4);
        int[] added = {32767, 32768, -32768, -32769, 65535, 65536, Integer.MAX_VALUE, Integer.MIN_VALUE};
        int[] kept = {32767, -32768, -32768, 32767, -1, 0, -1, 0};
        for (int i = 0; i < 8; i++) {
            int index = i;
            check.due("add(" + added[i] + ")", i + 1, () -> x.add(added[index]));
            check.due("how many it holds", i + 1, () -> x.count(3));
        }
        x.fill(1, 0);
        for (int i = 0; i < 12; i++) {
            int index = i;
            check.due("the empty buffer takes one", i + 1, () -> x.add(index + 1));
        }
        check.due("12 there are", 12, () -> x.count(3));
        check.due("all of them go", 12, () -> x.fill(1, 1));
        x.build(1);
        x.verify(1);
        for (int i = 0; i < 8; i++) {
            int index = i;
            check.due("short of " + added[i], kept[i], () -> x.element(0, index));
        }
        for (int i = 0; i < 12; i++) {
            int index = i;
            check.due("character " + i, i + 1, () -> x.element(1, index));
        }
        check.due("verified data stays verified", 1, () -> {
            x.add(1);
            return x.count(4);
        });
    }

    private static void addTooMany() {
        check.sentence("Promise 5", "IllegalStateException: it holds 12.");
        FlatStore x = withKinds(4);
        for (int i = 0; i < 11; i++) {
            x.add(i);
        }
        check.due("the 12th", 12, () -> x.add(11));
        check.refused("the 13th", STATE, () -> x.add(12));
        check.refused("the 13th again", STATE, () -> x.add(0));
        check.due("12 there are", 12, () -> x.count(3));
        x.fill(1, 0);
        x.build(1);
        x.verify(1);
        check.due("the first is there", 0, () -> x.element(0, 0));
        check.due("the 12th is the last", 11, () -> x.element(0, 11));
        check.due("there is room again", 1, () -> x.add(1));
    }

    private static void fill() {
        check.sentence("Promise 6", "Gives a field of kind 4 the buffer as a text (of each number the lowest "
            + "7 bits), or one of kind 5 as a row, and empties the buffer; answers how many it held.");
        FlatStore x = withKinds(4, 5);
        Sample.addAll(x, 127, 128, 255, 256, -1, -128, 32767, -32768, 200, 0);
        check.due("a text", 10, () -> x.fill(1, 0));
        check.due("the buffer is empty", 0, () -> x.count(3));
        Sample.addAll(x, 127, 128, 255, 256, -1, -128, 32767, -32768);
        check.due("a row", 8, () -> x.fill(1, 1));
        check.due("the buffer is empty", 0, () -> x.count(3));
        x.build(1);
        x.verify(1);
        int[] characters = {127, 0, 127, 0, 127, 0, 127, 0, 72, 0};
        check.due("size of the text", 10, () -> x.size(0));
        for (int i = 0; i < 10; i++) {
            int index = i;
            check.due("character " + i, characters[i], () -> x.element(0, index));
        }
        int[] shorts = {127, 128, 255, 256, -1, -128, 32767, -32768};
        check.due("size of the row", 8, () -> x.size(1));
        for (int i = 0; i < 8; i++) {
            int index = i;
            check.due("short " + i, shorts[i], () -> x.element(1, index));
        }
        check.due("an empty buffer", 0, () -> x.fill(1, 0));
        check.due("the data is as it was", 10, () -> x.size(0));
        check.due("verified data stays verified", 1, () -> x.count(4));
    }

    private static void fillAgain() {
        check.sentence("Promise 6", "Gives a field of kind 4 the buffer as a text (of each number the lowest "
            + "7 bits), or one of kind 5 as a row, and empties the buffer; answers how many it held.");
        FlatStore x = withKinds(4, 5);
        Sample.text(x, 1, 0, 5);
        Sample.text(x, 1, 1, 5);
        check.due("an empty text in its place", 0, () -> x.fill(1, 0));
        check.due("an empty row in its place", 0, () -> x.fill(1, 1));
        x.build(1);
        x.verify(1);
        check.due("size of an empty text", 0, () -> x.size(0));
        check.due("size of an empty row", 0, () -> x.size(1));
        check.due("an empty text is something", 1, () -> x.unset(1, 0));
        check.due("an empty row is something", 1, () -> x.unset(1, 1));
    }

    private static void fillNoSuch() {
        check.sentence("Promise 6", "NoSuchElementException: as before.");
        FlatStore x = withKinds(4, 5, 4, 5, 4, 5);
        Sample.addAll(x, 1, 2, 3);
        for (int[] row : NO_FIELDS) {
            check.refused("record " + row[0] + ", field " + row[1], NO_SUCH, () -> x.fill(row[0], row[1]));
        }
        check.due("the buffer stays", 3, () -> x.count(3));
        check.due("the last field", 3, () -> x.fill(1, 5));
        FlatStore y = oneRecord(4);
        for (int record : NO_RECORDS) {
            check.refused("record " + record + " of one", NO_SUCH, () -> y.fill(record, 0));
        }
        check.refused("field 1 of one", NO_SUCH, () -> y.fill(0, 1));
        check.due("record 0 of one", 0, () -> y.fill(0, 0));
    }

    private static void fillOfAnotherKind() {
        check.sentence("Promise 6", "UnsupportedOperationException: another kind, or more than 8 for a row.");
        FlatStore x = withKinds(0, 1, 2, 3, 6, 5);
        Sample.addAll(x, 1, 2, 3, 4, 5, 6, 7, 8);
        for (int field = 0; field < 5; field++) {
            int f = field;
            check.refused("field " + f, UNSUPPORTED, () -> x.fill(1, f));
            check.due("it has nothing still", 0, () -> x.unset(1, f));
        }
        check.due("8 for a row", 8, () -> x.fill(1, 5));
        for (int i = 0; i < 8; i++) {
            x.add(9);
        }
        for (int held = 9; held < 13; held++) {
            x.add(held);
            check.refused(held + " for a row", UNSUPPORTED, () -> x.fill(1, 5));
            check.due("the buffer stays", held, () -> x.count(3));
        }
        x.build(1);
        x.verify(1);
        check.due("the row stays", 8, () -> x.size(5));
        check.due("its last short too", 8, () -> x.element(5, 7));
        FlatStore y = withKinds(4);
        for (int i = 0; i < 12; i++) {
            y.add(1);
        }
        check.due("12 for a text", 12, () -> y.fill(1, 0));
    }

    private static void link() {
        check.sentence("Promise 7", "Gives a field of kind 6 a link: 1.");
        FlatStore x = new FlatStore();
        x.field(0, 6, 1, false);
        x.field(0, 6, 0, false);
        x.field(1, 0, 0, false);
        for (int i = 0; i < 6; i++) {
            x.make(i % 2);
        }
        x.number(1, 0, 11);
        x.number(3, 0, 33);
        check.due("to a lower one", 1, () -> x.link(4, 0, 1));
        check.due("to another one in its place", 1, () -> x.link(4, 0, 3));
        check.due("to a lower one of its own table", 1, () -> x.link(4, 1, 0));
        check.due("the same again", 1, () -> x.link(4, 1, 0));
        x.build(4);
        check.due("three tables", 3, () -> x.verify(0));
        x.down(0);
        check.due("the later one is linked", 33, () -> x.value(0));
        check.due("back to the first", 1, () -> x.link(4, 0, 1));
        check.due("the data is as it was", 33, () -> x.value(0));
        check.due("verified data stays verified", 1, () -> x.count(4));
        x.build(4);
        x.verify(0);
        x.down(0);
        check.due("the first is linked", 11, () -> x.value(0));
    }

    private static void linkNoSuch() {
        check.sentence("Promise 7", "NoSuchElementException: as before, or no such other record.");
        FlatStore x = withKinds(6, 6, 6, 6, 6, 6);
        for (int[] row : NO_FIELDS) {
            check.refused("record " + row[0] + ", field " + row[1], NO_SUCH, () -> x.link(row[0], row[1], 0));
        }
        for (int other : new int[] {-1, 2, 15, 16, Integer.MIN_VALUE, Integer.MAX_VALUE}) {
            check.refused("other " + other, NO_SUCH, () -> x.link(1, 0, other));
        }
        check.due("other 0", 1, () -> x.link(1, 5, 0));
        check.due("only that one is there", 0, () -> x.unset(1, 0));
        FlatStore y = oneRecord(6);
        for (int record : NO_RECORDS) {
            check.refused("record " + record + " of one", NO_SUCH, () -> y.link(record, 0, 0));
            check.refused("other " + record + " of one", NO_SUCH, () -> y.link(0, 0, record));
        }
        check.refused("field 1 of one", NO_SUCH, () -> y.link(0, 1, 0));
    }

    private static void linkOfAnotherKind() {
        check.sentence("Promise 7", "UnsupportedOperationException: another kind, "
            + "or the other record is of another table, or not lower.");
        FlatStore x = withKinds(0, 1, 2, 3, 4, 5);
        for (int field = 0; field < 6; field++) {
            int f = field;
            check.refused("kind " + f, UNSUPPORTED, () -> x.link(1, f, 0));
            check.due("it has nothing still", 0, () -> x.unset(1, f));
        }
        FlatStore y = new FlatStore();
        y.field(0, 6, 1, false);
        y.field(0, 6, 0, false);
        for (int i = 0; i < 4; i++) {
            y.make(i % 2);
        }
        check.due("lower, of the table", 1, () -> y.link(2, 0, 1));
        check.due("lower, of the other table", 1, () -> y.link(2, 1, 0));
        check.refused("lower, but of another table", UNSUPPORTED, () -> y.link(2, 0, 0));
        check.refused("lower, but of another table", UNSUPPORTED, () -> y.link(2, 1, 1));
        check.refused("of the table, but higher", UNSUPPORTED, () -> y.link(2, 0, 3));
        check.refused("of the table, but itself", UNSUPPORTED, () -> y.link(2, 1, 2));
        check.due("the links stay", 1, () -> y.unset(2, 0));
        check.due("the links stay", 1, () -> y.unset(2, 1));
    }

    private static void unset() {
        check.sentence("Promise 8", "A field has nothing again: 1 if it had something, else 0.");
        FlatStore x = Sample.verified();
        for (int field = 0; field < 5; field++) {
            int f = field;
            check.due("something in " + f, 1, () -> x.unset(1, f));
            check.due("nothing again in " + f, 0, () -> x.unset(1, f));
        }
        check.due("verified data stays verified", 1, () -> x.count(4));
        check.due("the data is as it was", 5, () -> x.value(0));
        check.refused("nothing is there to be built", STATE, () -> x.build(1));
        FlatStore y = withKinds(0, 4, 5, 6, 3);
        check.due("a number", 0, () -> y.number(1, 0, 0));
        check.due("one that is the default is something", 1, () -> y.unset(1, 0));
        y.number(1, 4, 6);
        y.fill(1, 1);
        y.fill(1, 2);
        y.make(1);
        y.number(2, 4, 7);
        check.due("nothing in the next field", 0, () -> y.unset(1, 3));
        for (int field : new int[] {1, 2, 4}) {
            check.due("something in " + field, 1, () -> y.unset(1, field));
        }
        check.due("nothing is put", 12, () -> y.build(1));
        check.due("the other record keeps its own", 1, () -> y.unset(2, 4));
        check.due("a number again", 6, () -> y.number(1, 4, 6));
        check.due("something again", 1, () -> y.unset(1, 4));
    }

    private static void unsetNoSuch() {
        check.sentence("Promise 8", "NoSuchElementException: as before.");
        FlatStore x = withKinds(0, 1, 2, 4, 5, 6);
        for (int[] row : NO_FIELDS) {
            check.refused("record " + row[0] + ", field " + row[1], NO_SUCH, () -> x.unset(row[0], row[1]));
        }
        check.due("the last field", 0, () -> x.unset(1, 5));
        FlatStore y = oneRecord(4);
        for (int record : NO_RECORDS) {
            check.refused("record " + record + " of one", NO_SUCH, () -> y.unset(record, 0));
        }
        check.refused("field 1 of one", NO_SUCH, () -> y.unset(0, 1));
        check.due("record 0 of one", 0, () -> y.unset(0, 0));
    }
}
