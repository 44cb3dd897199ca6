import java.util.NoSuchElementException;

/** The terms of building and promise 9 (build), with the bytes counted out by hand from the document. */
public final class BuildTest {
    private static final Class<IllegalStateException> STATE = IllegalStateException.class;
    private static final Class<NoSuchElementException> NO_SUCH = NoSuchElementException.class;
    private static final Class<IndexOutOfBoundsException> BOUNDS = IndexOutOfBoundsException.class;
    private static final Check check = new Check("BuildTest");

    public static void main(String[] args) {
        Runnable[] tests = {
            BuildTest::fromTheLastByteOn, BuildTest::lowestByteFirst, BuildTest::zerosOfAnAlignment,
            BuildTest::noZerosWhereNoneAreDue, BuildTest::recordsOnce,
            BuildTest::onceInEachBuilding, BuildTest::contentsByRisingFields, BuildTest::texts,
            BuildTest::textsBehindARecord, BuildTest::rows, BuildTest::rowsBehindARecord,
            BuildTest::linksNotPutYet, BuildTest::contentsAreNoFields, BuildTest::defaults,
            BuildTest::references, BuildTest::placesOfRecords, BuildTest::offsetsUpToTheLastOne,
            BuildTest::sharedOffsets, BuildTest::offsetsOfOtherTables, BuildTest::offsetsThatDiffer,
            BuildTest::offsetsThatDifferInOne, BuildTest::allOffsetsApart,
            BuildTest::distanceOfOffsets, BuildTest::widestAlignment, BuildTest::firstRecord,
            BuildTest::build, BuildTest::noSuchRecord, BuildTest::required,
            BuildTest::requiredOfTheFirstAndTheLast, BuildTest::requiredByAnyWay,
            BuildTest::tooLarge, BuildTest::tooLargeWithLongs};
        check.all(tests);
        check.end();
    }

    /** Record 0 of table 0 with fields of these kinds, all of them with a default of 0. */
    private static FlatStore withKinds(int... kinds) {
        FlatStore x = new FlatStore();
        for (int kind : kinds) {
            x.field(0, kind, 0, false);
        }
        x.make(0);
        return x;
    }

    private static void built(String what, FlatStore x, int record, int... want) {
        check.due(what + ": build", want.length, () -> x.build(record));
        check.bytes(what, x, want);
    }

    private static void fromTheLastByteOn() {
        check.sentence("Terms", "Bytes are put one before the other, from the last one of the buffer on; "
            + "WRITTEN is how many there are; the PLACE of a thing is WRITTEN when it has just been put.");
        FlatStore x = withKinds(0, 0, 0);
        for (int i = 0; i < 3; i++) {
            x.number(0, i, i + 1);
        }
        built("three bytes", x, 0,
            16, 0, 0, 0, 0, 0, 10, 0, 8, 0, 7, 0, 6, 0, 5, 0, 10, 0, 0, 0, 0, 3, 2, 1);
        built("all kinds", Sample.built(), 1, Sample.builtBytes());
    }

    private static void lowestByteFirst() {
        check.sentence("Terms", "Numbers have their lowest byte first in the buffer.");
        FlatStore x = withKinds(0, 1, 2);
        x.number(0, 0, -2);
        x.number(0, 1, 0x1234);
        x.number(0, 2, 0x89ABCDEFL);
        built("byte, short, int", x, 0,
            16, 0, 0, 0, 0, 0, 10, 0, 12, 0, 11, 0, 8, 0, 4, 0, 10, 0, 0, 0,
            0xEF, 0xCD, 0xAB, 0x89, 0x34, 0x12, 0, 0xFE);
        FlatStore y = withKinds(3);
        y.number(0, 0, 0x8182838485868788L);
        built("long", y, 0,
            12, 0, 0, 0, 0, 0, 6, 0, 12, 0, 4, 0, 6, 0, 0, 0,
            0x88, 0x87, 0x86, 0x85, 0x84, 0x83, 0x82, 0x81);
    }

    /** Two fields with all bits set, so that each zero among them is one of an alignment. */
    private static void pair(int first, int second, int... want) {
        FlatStore x = withKinds(first, second);
        x.number(0, 0, -1);
        x.number(0, 1, -1);
        built("kind " + first + ", then " + second, x, 0, want);
    }

    private static void zerosOfAnAlignment() {
        check.sentence("Terms", "TO ALIGN to n for m: zeros are put until WRITTEN + m is a multiple of n.");
        int f = 255;
        pair(0, 1, 12, 0, 0, 0, 8, 0, 8, 0, 7, 0, 4, 0, 8, 0, 0, 0, f, f, 0, f);
        pair(0, 2, 12, 0, 0, 0, 8, 0, 12, 0, 11, 0, 4, 0, 8, 0, 0, 0, f, f, f, f, 0, 0, 0, f);
        pair(1, 2, 12, 0, 0, 0, 8, 0, 12, 0, 10, 0, 4, 0, 8, 0, 0, 0, f, f, f, f, 0, 0, f, f);
        pair(0, 3, 12, 0, 0, 0, 8, 0, 20, 0, 19, 0, 4, 0, 8, 0, 0, 0,
            f, f, f, f, f, f, f, f, 0, 0, 0, 0, 0, 0, 0, f);
        pair(1, 3, 12, 0, 0, 0, 8, 0, 20, 0, 18, 0, 4, 0, 8, 0, 0, 0,
            f, f, f, f, f, f, f, f, 0, 0, 0, 0, 0, 0, f, f);
        pair(2, 3, 12, 0, 0, 0, 8, 0, 20, 0, 16, 0, 4, 0, 8, 0, 0, 0,
            f, f, f, f, f, f, f, f, 0, 0, 0, 0, f, f, f, f);
    }

    private static void noZerosWhereNoneAreDue() {
        check.sentence("Terms", "TO PUT a number of n bytes: align to n for 0, then its n bytes.");
        int f = 255;
        pair(0, 0, 12, 0, 0, 0, 8, 0, 8, 0, 7, 0, 6, 0, 8, 0, 0, 0, 0, 0, f, f);
        pair(1, 0, 12, 0, 0, 0, 8, 0, 8, 0, 6, 0, 5, 0, 8, 0, 0, 0, 0, f, f, f);
        pair(1, 1, 12, 0, 0, 0, 8, 0, 8, 0, 6, 0, 4, 0, 8, 0, 0, 0, f, f, f, f);
        pair(2, 1, 12, 0, 0, 0, 8, 0, 12, 0, 8, 0, 6, 0, 8, 0, 0, 0, 0, 0, f, f, f, f, f, f);
        pair(2, 2, 12, 0, 0, 0, 8, 0, 12, 0, 8, 0, 4, 0, 8, 0, 0, 0, f, f, f, f, f, f, f, f);
        pair(3, 0, 16, 0, 0, 0, 0, 0, 0, 0, 8, 0, 16, 0, 8, 0, 7, 0, 8, 0, 0, 0,
            0, 0, 0, f, f, f, f, f, f, f, f, f);
        pair(3, 2, 16, 0, 0, 0, 0, 0, 0, 0, 8, 0, 16, 0, 8, 0, 4, 0, 8, 0, 0, 0,
            f, f, f, f, f, f, f, f, f, f, f, f);
        pair(3, 3, 12, 0, 0, 0, 8, 0, 20, 0, 12, 0, 4, 0, 8, 0, 0, 0,
            f, f, f, f, f, f, f, f, f, f, f, f, f, f, f, f);
    }

    private static void recordsOnce() {
        check.sentence("Terms", "A record is put once in a building:");
        FlatStore x = new FlatStore();
        x.field(1, 6, 0, false);
        x.field(1, 6, 0, false);
        x.make(0);
        x.make(1);
        x.link(1, 0, 0);
        x.link(1, 1, 0);
        built("by two links of one record", x, 1,
            12, 0, 0, 0, 8, 0, 12, 0, 8, 0, 4, 0, 8, 0, 0, 0, 12, 0, 0, 0, 8, 0, 0, 0,
            4, 0, 4, 0, 4, 0, 0, 0);
        FlatStore y = new FlatStore();
        y.field(1, 6, 0, false);
        y.field(2, 6, 1, false);
        y.field(2, 6, 1, false);
        for (int table : new int[] {0, 1, 1, 2}) {
            y.make(table);
        }
        y.link(1, 0, 0);
        y.link(2, 0, 0);
        y.link(3, 0, 1);
        y.link(3, 1, 2);
        built("by links of two records", y, 3,
            12, 0, 0, 0, 8, 0, 14, 0, 8, 0, 4, 0, 8, 0, 0, 0, 16, 0, 0, 0, 28, 0, 0, 0,
            0, 0, 6, 0, 10, 0, 4, 0, 6, 0, 0, 0, 24, 0, 0, 0,
            0, 0, 6, 0, 8, 0, 4, 0, 6, 0, 0, 0, 8, 0, 0, 0, 4, 0, 4, 0, 4, 0, 0, 0);
    }

    /** Nothing of an earlier building is left: neither bytes nor places nor offsets. */
    private static void onceInEachBuilding() {
        check.sentence("Terms", "A record is put once in a building:");
        FlatStore x = Sample.built();
        int[] other = {12, 0, 0, 0, 0, 0, 6, 0, 8, 0, 6, 0, 6, 0, 0, 0, 0, 0, 7, 0};
        for (int i = 0; i < 2; i++) {
            built("the linked record alone", x, 0, other);
            built("both again", x, 1, Sample.builtBytes());
        }
        x.number(1, 0, 0);
        x.unset(1, 2);
        x.unset(1, 3);
        x.unset(1, 4);
        built("a text alone", x, 1,
            12, 0, 0, 0, 8, 0, 8, 0, 0, 0, 4, 0, 8, 0, 0, 0, 4, 0, 0, 0, 2, 0, 0, 0, 'H', 'i', 0, 0);
    }

    private static void contentsByRisingFields() {
        check.sentence("Terms", "first, by rising fields, what its fields of kind 4 to 6 have:");
        FlatStore x = new FlatStore();
        x.field(1, 6, 0, false);
        x.field(1, 5, 0, false);
        x.field(1, 4, 0, false);
        x.make(0);
        x.make(1);
        Sample.text(x, 1, 2, 1);
        x.add(5);
        x.fill(1, 1);
        x.link(1, 0, 0);
        built("link, row, text", x, 1,
            16, 0, 0, 0, 0, 0, 10, 0, 16, 0, 12, 0, 8, 0, 4, 0, 10, 0, 0, 0,
            12, 0, 0, 0, 16, 0, 0, 0, 24, 0, 0, 0, 1, 0, 0, 0, 'a', 0, 0, 0,
            1, 0, 0, 0, 5, 0, 0, 0, 4, 0, 4, 0, 4, 0, 0, 0);
    }

    /** The text lies at the end: its length, its characters, a zero and those of the alignment. */
    private static void texts() {
        check.sentence("Terms", "a TEXT of k characters: align to 4 for k + 1, a zero, "
            + "the characters from the last one on, the number k of 4 bytes.");
        int[] sizes = {28, 28, 28, 28, 32, 32, 32, 32, 36, 36, 36, 36, 40};
        int[] start = {12, 0, 0, 0, 0, 0, 6, 0, 8, 0, 4, 0, 6, 0, 0, 0, 4, 0, 0, 0};
        for (int length = 0; length < 13; length++) {
            FlatStore x = withKinds(4);
            Sample.text(x, 0, 0, length);
            int[] want = java.util.Arrays.copyOf(start, sizes[length]);
            want[20] = length;
            for (int i = 0; i < length; i++) {
                want[24 + i] = 'a' + i;
            }
            built("a text of " + length, x, 0, want);
        }
        FlatStore y = withKinds(4, 4, 5);
        Sample.text(y, 0, 0, 3);
        Sample.text(y, 0, 1, 4);
        y.add(-2);
        y.fill(0, 2);
        built("texts of 3 and 4, and a row", y, 0,
            16, 0, 0, 0, 0, 0, 10, 0, 16, 0, 12, 0, 8, 0, 4, 0, 10, 0, 0, 0,
            12, 0, 0, 0, 16, 0, 0, 0, 24, 0, 0, 0, 1, 0, 0, 0, 254, 255, 0, 0,
            4, 0, 0, 0, 'a', 'b', 'c', 'd', 0, 0, 0, 0, 3, 0, 0, 0, 'a', 'b', 'c', 0);
    }

    /** 14 bytes are there, those of a record with one byte, when the field of this kind is put. */
    private static FlatStore behindARecord(int kind, int... items) {
        FlatStore x = new FlatStore();
        x.field(0, 0, 0, false);
        x.field(1, 6, 0, false);
        x.field(1, kind, 0, false);
        x.make(0);
        x.make(1);
        x.number(0, 0, 9);
        x.link(1, 0, 0);
        Sample.addAll(x, items);
        x.fill(1, 1);
        return x;
    }

    private static void textsBehindARecord() {
        check.sentence("Terms", "a TEXT of k characters: align to 4 for k + 1, a zero, "
            + "the characters from the last one on, the number k of 4 bytes.");
        built("no zeros are due", behindARecord(4, 'a'), 1,
            12, 0, 0, 0, 8, 0, 12, 0, 8, 0, 4, 0, 8, 0, 0, 0, 8, 0, 0, 0, 16, 0, 0, 0,
            1, 0, 0, 0, 'a', 0, 6, 0, 8, 0, 7, 0, 6, 0, 0, 0, 0, 0, 0, 9);
        built("three zeros are due", behindARecord(4, 'a', 'b'), 1,
            12, 0, 0, 0, 8, 0, 12, 0, 8, 0, 4, 0, 8, 0, 0, 0, 8, 0, 0, 0, 20, 0, 0, 0,
            2, 0, 0, 0, 'a', 'b', 0, 0, 0, 0, 6, 0, 8, 0, 7, 0, 6, 0, 0, 0, 0, 0, 0, 9);
        built("one zero is due", behindARecord(4), 1,
            12, 0, 0, 0, 8, 0, 12, 0, 8, 0, 4, 0, 8, 0, 0, 0, 8, 0, 0, 0, 16, 0, 0, 0,
            0, 0, 0, 0, 0, 0, 6, 0, 8, 0, 7, 0, 6, 0, 0, 0, 0, 0, 0, 9);
    }

    private static void rows() {
        check.sentence("Terms", "A ROW of k: align to 4 for 2 k, the shorts from the last one on, k of 4 "
            + "bytes.");
        int[] sizes = {24, 28, 28, 32, 32, 36, 36, 40, 40};
        int[] start = {12, 0, 0, 0, 0, 0, 6, 0, 8, 0, 4, 0, 6, 0, 0, 0, 4, 0, 0, 0};
        for (int length = 0; length < 9; length++) {
            FlatStore x = withKinds(5);
            int[] want = java.util.Arrays.copyOf(start, sizes[length]);
            want[20] = length;
            for (int i = 0; i < length; i++) {
                x.add(-256 * i + i);
                want[24 + 2 * i] = i;
                want[25 + 2 * i] = -i & 255;
            }
            x.fill(0, 0);
            built("a row of " + length, x, 0, want);
        }
    }

    private static void rowsBehindARecord() {
        check.sentence("Terms", "A ROW of k: align to 4 for 2 k, the shorts from the last one on, k of 4 "
            + "bytes.");
        built("no zeros are due", behindARecord(5, 7), 1,
            12, 0, 0, 0, 8, 0, 12, 0, 8, 0, 4, 0, 8, 0, 0, 0, 8, 0, 0, 0, 16, 0, 0, 0,
            1, 0, 0, 0, 7, 0, 6, 0, 8, 0, 7, 0, 6, 0, 0, 0, 0, 0, 0, 9);
        built("two zeros are due", behindARecord(5, 7, -8), 1,
            12, 0, 0, 0, 8, 0, 12, 0, 8, 0, 4, 0, 8, 0, 0, 0, 8, 0, 0, 0, 20, 0, 0, 0,
            2, 0, 0, 0, 7, 0, 248, 255, 0, 0, 6, 0, 8, 0, 7, 0, 6, 0, 0, 0, 0, 0, 0, 9);
        built("two zeros for none", behindARecord(5), 1,
            12, 0, 0, 0, 8, 0, 12, 0, 8, 0, 4, 0, 8, 0, 0, 0, 8, 0, 0, 0, 16, 0, 0, 0,
            0, 0, 0, 0, 0, 0, 6, 0, 8, 0, 7, 0, 6, 0, 0, 0, 0, 0, 0, 9);
    }

    /** Record 0 is linked by record 1 and by record 2, which links record 1 as well. */
    private static void linksNotPutYet() {
        check.sentence("Terms", "A link: that record, if it was not put yet.");
        FlatStore x = withKinds(6, 6);
        x.make(0);
        x.make(0);
        x.link(1, 0, 0);
        x.link(2, 0, 1);
        x.link(2, 1, 0);
        built("put with the record before", x, 2,
            12, 0, 0, 0, 8, 0, 14, 0, 8, 0, 4, 0, 8, 0, 0, 0, 28, 0, 0, 0, 12, 0, 0, 0,
            0, 0, 6, 0, 8, 0, 4, 0, 6, 0, 0, 0, 8, 0, 0, 0, 4, 0, 4, 0, 4, 0, 0, 0);
        x.link(2, 0, 0);
        x.link(2, 1, 1);
        built("put before the other record", x, 2,
            12, 0, 0, 0, 8, 0, 14, 0, 8, 0, 4, 0, 8, 0, 0, 0, 16, 0, 0, 0, 24, 0, 0, 0,
            0, 0, 6, 0, 8, 0, 4, 0, 6, 0, 0, 0, 8, 0, 0, 0, 4, 0, 4, 0, 4, 0, 0, 0);
        FlatStore y = withKinds(6);
        for (int record = 1; record < 16; record++) {
            y.make(0);
            y.link(record, 0, record - 1);
        }
        check.due("16 records within one another", 148, () -> y.build(15));
        check.due("the last one put lies first", 4, () -> y.at(0));
        check.due("the first one put lies last", 4, () -> y.at(144));
    }

    private static void contentsAreNoFields() {
        check.sentence("Terms", "Then B is WRITTEN;");
        FlatStore x = withKinds(4, 5);
        Sample.text(x, 0, 0, 12);
        Sample.text(x, 0, 1, 8);
        check.due("build", 64, () -> x.build(0));
        check.due("where the record is", 12, () -> x.at(0));
        check.due("the span has no more than the references", 12, () -> x.at(6));
    }

    private static void defaults() {
        check.sentence("Terms", "then, by rising fields, of each field that has something, "
            + "but for a number that is the default: a number of its size;");
        FlatStore x = new FlatStore();
        x.field(0, 0, -1, false);
        x.field(0, 3, 7, false);
        x.field(0, 1, 0, false);
        x.field(0, 2, 5, false);
        x.make(0);
        x.number(0, 0, 255);
        x.number(0, 1, 7);
        x.number(0, 2, 65536);
        x.number(0, 3, 4294967296L + 5);
        built("only numbers that are the default once they are in range", x, 0,
            8, 0, 0, 0, 4, 0, 4, 0, 4, 0, 0, 0);
        x.number(0, 1, 4294967296L + 7);
        built("a long with the lowest bits of the default", x, 0,
            12, 0, 0, 0, 8, 0, 12, 0, 0, 0, 4, 0, 8, 0, 0, 0, 7, 0, 0, 0, 1, 0, 0, 0);
        x.number(0, 1, 7);
        x.number(0, 3, 0);
        built("a zero that is not the default", x, 0,
            16, 0, 0, 0, 12, 0, 8, 0, 0, 0, 0, 0, 0, 0, 4, 0, 12, 0, 0, 0, 0, 0, 0, 0);
        for (int kind = 0; kind < 4; kind++) {
            FlatStore y = new FlatStore();
            int k = kind;
            y.field(0, k, 100, false);
            y.make(0);
            check.due("nothing, kind " + k, 12, () -> y.build(0));
            for (int number = 99; number < 102; number++) {
                y.number(0, 0, number);
                int want = number == 100 ? 12 : k == 3 ? 24 : 20;
                check.due("100 by default, kind " + k + ", has " + number, want, () -> y.build(0));
            }
        }
    }

    private static void references() {
        check.sentence("Terms", "or, for kinds 4 to 6, align to 4 for 0, then, of 4 bytes, WRITTEN (now) + 4 "
            + "less the place of what it has (for a link the record's).");
        FlatStore x = withKinds(0, 4);
        x.number(0, 0, 7);
        x.fill(0, 1);
        built("a text behind a byte", x, 0,
            12, 0, 0, 0, 8, 0, 12, 0, 11, 0, 4, 0, 8, 0, 0, 0, 8, 0, 0, 0, 0, 0, 0, 7,
            0, 0, 0, 0, 0, 0, 0, 0);
        FlatStore y = withKinds(0, 5);
        y.number(0, 0, 7);
        y.fill(0, 1);
        built("a row behind a byte", y, 0,
            12, 0, 0, 0, 8, 0, 12, 0, 11, 0, 4, 0, 8, 0, 0, 0, 8, 0, 0, 0, 0, 0, 0, 7, 0, 0, 0, 0);
        FlatStore z = new FlatStore();
        z.field(0, 0, 0, false);
        z.field(0, 6, 1, false);
        z.make(1);
        z.make(0);
        z.number(1, 0, 7);
        z.link(1, 1, 0);
        built("a link behind a byte", z, 1,
            12, 0, 0, 0, 8, 0, 12, 0, 11, 0, 4, 0, 8, 0, 0, 0, 12, 0, 0, 0, 0, 0, 0, 7,
            4, 0, 4, 0, 4, 0, 0, 0);
        FlatStore e = withKinds(5, 4);
        e.fill(0, 0);
        e.fill(0, 1);
        built("an empty row and an empty text", e, 0,
            12, 0, 0, 0, 8, 0, 12, 0, 8, 0, 4, 0, 8, 0, 0, 0, 8, 0, 0, 0, 12, 0, 0, 0,
            0, 0, 0, 0, 0, 0, 0, 0, 0, 0, 0, 0);
    }

    private static void placesOfRecords() {
        check.sentence("Terms", "Then a number of 4 bytes that is filled in later; "
            + "the record's PLACE T is WRITTEN now.");
        FlatStore x = new FlatStore();
        x.make(3);
        built("no field at all", x, 0, 8, 0, 0, 0, 4, 0, 4, 0, 4, 0, 0, 0);
        FlatStore y = withKinds(0);
        y.number(0, 0, 1);
        built("aligned behind a byte", y, 0,
            12, 0, 0, 0, 0, 0, 6, 0, 8, 0, 7, 0, 6, 0, 0, 0, 0, 0, 0, 1);
        FlatStore z = withKinds(2);
        z.number(0, 0, 1);
        built("next to an int", z, 0,
            12, 0, 0, 0, 0, 0, 6, 0, 8, 0, 4, 0, 6, 0, 0, 0, 1, 0, 0, 0);
    }

    private static void offsetsUpToTheLastOne() {
        check.sentence("Terms", "Its OFFSETS: numbers of 2 bytes: twice how many of them there are; T - B; "
            + "and "
            + "for each field, up to the last one that was put, T less the field's place, "
            + "or 0 if it was not put.");
        FlatStore x = withKinds(0, 0, 0, 0, 0, 0);
        built("none", x, 0, 8, 0, 0, 0, 4, 0, 4, 0, 4, 0, 0, 0);
        x.number(0, 5, 1);
        built("the last one alone", x, 0,
            20, 0, 0, 0, 16, 0, 8, 0, 0, 0, 0, 0, 0, 0, 0, 0, 0, 0, 7, 0, 16, 0, 0, 0, 0, 0, 0, 1);
        x.number(0, 0, 1);
        x.number(0, 5, 0);
        built("the first one alone; the last one is the default", x, 0,
            12, 0, 0, 0, 0, 0, 6, 0, 8, 0, 7, 0, 6, 0, 0, 0, 0, 0, 0, 1);
        x.unset(0, 0);
        x.unset(0, 5);
        x.number(0, 2, 1);
        built("one in the middle", x, 0,
            16, 0, 0, 0, 0, 0, 10, 0, 8, 0, 0, 0, 0, 0, 7, 0, 10, 0, 0, 0, 0, 0, 0, 1);
        for (int i = 0; i < 6; i++) {
            x.number(0, i, i + 1);
        }
        built("all", x, 0,
            20, 0, 0, 0, 16, 0, 12, 0, 11, 0, 10, 0, 9, 0, 8, 0, 7, 0, 6, 0, 16, 0, 0, 0,
            0, 0, 6, 5, 4, 3, 2, 1);
    }

    /** The second record finds the offsets of the first one, behind it in the building. */
    private static void sharedOffsets() {
        check.sentence("Terms", "If the very same offsets were put in this building, V is their place;");
        FlatStore x = new FlatStore();
        x.field(1, 6, 0, false);
        x.field(1, 6, 0, false);
        x.make(0);
        x.make(0);
        x.make(1);
        x.link(2, 0, 0);
        x.link(2, 1, 1);
        for (int i = 0; i < 2; i++) {
            built("of two records without a field", x, 2,
                12, 0, 0, 0, 8, 0, 12, 0, 8, 0, 4, 0, 8, 0, 0, 0, 8, 0, 0, 0, 12, 0, 0, 0,
                252, 255, 255, 255, 4, 0, 4, 0, 4, 0, 0, 0);
        }
        x.unset(2, 0);
        built("not of the building before", x, 2,
            12, 0, 0, 0, 8, 0, 8, 0, 0, 0, 4, 0, 8, 0, 0, 0, 8, 0, 0, 0, 4, 0, 4, 0, 4, 0, 0, 0);
    }

    private static void offsetsOfOtherTables() {
        check.sentence("Terms", "If the very same offsets were put in this building, V is their place;");
        FlatStore x = new FlatStore();
        x.field(0, 2, 0, false);
        x.field(1, 4, 0, false);
        x.field(2, 6, 0, false);
        x.field(2, 6, 1, false);
        for (int table = 0; table < 3; table++) {
            x.make(table);
        }
        x.number(0, 0, 5);
        x.fill(1, 0);
        x.link(2, 0, 0);
        x.link(2, 1, 1);
        built("an int here, a text there", x, 2,
            12, 0, 0, 0, 8, 0, 12, 0, 8, 0, 4, 0, 8, 0, 0, 0, 8, 0, 0, 0, 24, 0, 0, 0,
            242, 255, 255, 255, 4, 0, 0, 0, 0, 0, 0, 0, 0, 0, 6, 0, 8, 0, 4, 0, 6, 0, 0, 0, 5, 0, 0, 0);
    }

    /** Of two shorts and of the first one alone: the same but for how many they are. */
    private static void offsetsThatDiffer() {
        check.sentence("Terms", "else they are put, from the last one on, and V is theirs.");
        FlatStore y = new FlatStore();
        y.field(0, 0, 0, false);
        y.field(0, 0, 0, false);
        y.field(0, 6, 0, false);
        y.make(0);
        y.make(0);
        y.number(0, 0, 1);
        y.number(1, 1, 2);
        y.link(1, 2, 0);
        built("of other fields", y, 1,
            16, 0, 0, 0, 0, 0, 10, 0, 10, 0, 0, 0, 9, 0, 4, 0, 10, 0, 0, 0, 12, 0, 0, 0, 0, 2,
            6, 0, 8, 0, 7, 0, 6, 0, 0, 0, 0, 0, 0, 1);
        FlatStore x = new FlatStore();
        x.field(0, 1, 0, false);
        x.field(0, 1, 0, false);
        x.field(1, 6, 0, false);
        x.field(1, 6, 0, false);
        x.make(0);
        x.make(0);
        x.make(1);
        x.number(0, 0, 1);
        x.number(0, 1, 2);
        x.number(1, 0, 3);
        for (int i = 0; i < 2; i++) {
            x.link(2, 0, 0);
            x.link(2, 1, 1);
            built("the longer first", x, 2,
                12, 0, 0, 0, 8, 0, 14, 0, 8, 0, 4, 0, 8, 0, 0, 0, 16, 0, 0, 0, 28, 0, 0, 0, 0, 0,
                6, 0, 8, 0, 6, 0, 6, 0, 0, 0, 0, 0, 3, 0, 8, 0, 8, 0, 6, 0, 4, 0, 8, 0, 0, 0, 2, 0, 1, 0);
            x.link(2, 0, 1);
            x.link(2, 1, 0);
            check.due("the shorter first", 56, () -> x.build(2));
        }
    }

    /** Record 0 with two fields of these kinds, record 1 with two of those, and record 2 with both. */
    private static FlatStore twoRecords(int[] kinds, int[] otherKinds) {
        FlatStore x = new FlatStore();
        for (int i = 0; i < 2; i++) {
            x.field(0, kinds[i], 0, false);
            x.field(1, otherKinds[i], 0, false);
            x.field(2, 6, i, false);
        }
        for (int table = 0; table < 3; table++) {
            x.make(table);
        }
        x.link(2, 0, 0);
        x.link(2, 1, 1);
        return x;
    }

    /** As many of them and the same span, but one offset is another. */
    private static void offsetsThatDifferInOne() {
        check.sentence("Terms", "else they are put, from the last one on, and V is theirs.");
        FlatStore x = twoRecords(new int[] {0, 0}, new int[] {0, 1});
        x.number(0, 1, 1);
        x.number(1, 1, 2);
        built("in the last one", x, 2,
            12, 0, 0, 0, 8, 0, 12, 0, 8, 0, 4, 0, 8, 0, 0, 0, 16, 0, 0, 0, 28, 0, 0, 0,
            8, 0, 8, 0, 0, 0, 6, 0, 8, 0, 0, 0, 0, 0, 2, 0,
            8, 0, 8, 0, 0, 0, 7, 0, 8, 0, 0, 0, 0, 0, 0, 1);
        FlatStore y = twoRecords(new int[] {0, 2}, new int[] {1, 2});
        y.number(0, 0, 1);
        y.number(1, 0, 2);
        y.number(0, 1, 3);
        y.number(1, 1, 4);
        built("in the one before it", y, 2,
            12, 0, 0, 0, 8, 0, 12, 0, 8, 0, 4, 0, 8, 0, 0, 0, 16, 0, 0, 0, 32, 0, 0, 0,
            8, 0, 12, 0, 10, 0, 4, 0, 8, 0, 0, 0, 4, 0, 0, 0, 0, 0, 2, 0,
            8, 0, 12, 0, 11, 0, 4, 0, 8, 0, 0, 0, 3, 0, 0, 0, 0, 0, 0, 1);
    }

    /** As many offsets as there can be: more than the data can hold, and refused as that. */
    private static void allOffsetsApart() {
        check.sentence("Terms", "else they are put, from the last one on, and V is theirs.");
        FlatStore x = withKinds(0, 0, 0, 0, 0, 6);
        for (int record = 0; record < 16; record++) {
            for (int field = 0; field < 4; field++) {
                x.number(record, field, record >> field & 1);
            }
            if (record > 0) {
                x.link(record, 5, record - 1);
            }
            if (record < 15) {
                x.make(0);
            }
        }
        check.refused("16 records", BOUNDS, () -> x.build(15));
        check.due("no data", 0, () -> x.count(0));
        check.due("some of them", 124, () -> x.build(4));
        check.due("all of them are there", 5, () -> x.verify(0));
        for (int record = 4; record >= 0; record--) {
            for (int field = 0; field < 4; field++) {
                int f = field;
                check.due("record " + record + ", field " + f, record >> f & 1, () -> x.value(f));
            }
            x.down(5);
        }
    }

    private static void distanceOfOffsets() {
        check.sentence("Terms", "The 4 bytes become V - T.");
        FlatStore x = new FlatStore();
        for (int i = 0; i < 6; i++) {
            x.field(1, 4, 0, true);
        }
        for (int table : new int[] {0, 1, 0}) {
            x.field(2, 6, table, true);
            x.make(table);
        }
        x.make(2);
        for (int i = 0; i < 6; i++) {
            Sample.text(x, 1, i, 12);
        }
        for (int i = 0; i < 3; i++) {
            x.link(3, i, i);
        }
        check.due("build", 208, () -> x.build(3));
        int[] back = {88, 255, 255, 255};
        int[] ahead = {10, 0, 0, 0};
        for (int i = 0; i < 4; i++) {
            int address = i;
            check.due("168 bytes behind, byte " + i, back[i], () -> x.at(32 + address));
            check.due("just before, byte " + i, ahead[i], () -> x.at(16 + address));
        }
    }

    private static void widestAlignment() {
        check.sentence("Terms", "At last: align to n for 4, n being the greatest number to which was aligned "
            + "in this building (at least 4),");
        FlatStore x = new FlatStore();
        x.field(0, 3, 0, false);
        x.field(1, 6, 0, false);
        x.make(0);
        x.make(1);
        x.number(0, 0, 1);
        check.due("4, though a record that is not linked has a long", 12, () -> x.build(1));
        x.link(1, 0, 0);
        built("8 for the long of a linked record", x, 1,
            12, 0, 0, 0, 0, 0, 6, 0, 10, 0, 4, 0, 6, 0, 0, 0, 12, 0, 0, 0, 0, 0, 6, 0, 12, 0, 4, 0,
            6, 0, 0, 0, 1, 0, 0, 0, 0, 0, 0, 0);
        x.unset(1, 0);
        check.due("4 in the building after it", 12, () -> x.build(1));
        x.number(0, 0, 0);
        check.due("4 for a long that is the default", 12, () -> x.build(0));
        x.number(0, 0, 1);
        check.due("8 for a long", 24, () -> x.build(0));
        FlatStore z = withKinds(3, 0);
        z.number(0, 1, 1);
        check.due("4 for a byte", 20, () -> z.build(0));
        z.number(0, 0, 1);
        built("8 for a long and a byte, where 4 would make less", z, 0,
            16, 0, 0, 0, 0, 0, 0, 0, 8, 0, 16, 0, 8, 0, 7, 0, 8, 0, 0, 0,
            0, 0, 0, 1, 1, 0, 0, 0, 0, 0, 0, 0);
        int[] sizes = {20, 20, 20, 24};
        for (int kind = 0; kind < 4; kind++) {
            FlatStore y = withKinds(kind);
            int k = kind;
            y.number(0, 0, 1);
            check.due("kind " + k, sizes[k], () -> y.build(0));
        }
    }

    private static void firstRecord() {
        check.sentence("Terms", "then, of 4 bytes, WRITTEN + 4 less the place of the first record (T).");
        FlatStore x = Sample.built();
        check.due("the record asked for, not the one put first", 20, () -> x.at(0));
        x.build(0);
        check.due("that one alone", 12, () -> x.at(0));
        FlatStore y = Sample.full();
        check.due("of 240 bytes", 20, () -> y.at(0));
        for (int i = 1; i < 4; i++) {
            int address = i;
            check.due("byte " + i, 0, () -> y.at(address));
        }
    }

    private static void build() {
        check.sentence("Promise 9", "Builds the record: the data becomes the buffer; answers its size.");
        FlatStore x = Sample.built();
        check.due("the linked record", 20, () -> x.build(0));
        check.due("bytes of data", 20, () -> x.count(0));
        check.refused("no byte of before is left", BOUNDS, () -> x.at(20));
        x.patch(5, 99);
        x.cut(3);
        check.due("the first again", 80, () -> x.build(1));
        check.bytes("the first again", x, Sample.builtBytes());
        check.due("the records are as they were", 2, () -> x.count(1));
        x.verify(0);
        check.due("a build ends the verifying", 80, () -> x.build(1));
        check.due("not verified", 0, () -> x.count(4));
    }

    private static void noSuchRecord() {
        check.sentence("Promise 9", "NoSuchElementException: no such record.");
        FlatStore x = Sample.verified();
        for (int record : new int[] {-1, 2, 15, 16, Integer.MIN_VALUE, Integer.MAX_VALUE}) {
            check.refused("build(" + record + ")", NO_SUCH, () -> x.build(record));
        }
        check.due("still verified", 1, () -> x.count(4));
        check.bytes("the data stays", x, Sample.builtBytes());
        for (int i = 2; i < 16; i++) {
            x.make(3);
        }
        check.due("the 16th record", 12, () -> x.build(15));
        check.refused("none behind it", NO_SUCH, () -> x.build(16));
    }

    private static void required() {
        check.sentence("Promise 9", "IllegalStateException: the record, or one that it comes to by links, "
            + "has nothing in a required field.");
        for (int kind = 4; kind < 7; kind++) {
            FlatStore x = new FlatStore();
            x.field(0, kind, 1, true);
            x.field(2, 6, 0, false);
            x.field(2, 6, 2, false);
            for (int table : new int[] {1, 0, 2, 2, 2}) {
                x.make(table);
            }
            x.link(2, 0, 1);
            x.link(4, 1, 2);
            String what = ", kind " + kind;
            check.refused("itself" + what, STATE, () -> x.build(1));
            check.refused("by a link" + what, STATE, () -> x.build(2));
            check.refused("by two links" + what, STATE, () -> x.build(4));
            check.due("not linked" + what, 12, () -> x.build(3));
            x.verify(2);
            check.refused("once more" + what, STATE, () -> x.build(4));
            check.due("still verified" + what, 1, () -> x.count(4));
            check.due("the data stays" + what, 12, () -> x.count(0));
            if (kind == 6) {
                x.link(1, 0, 0);
            } else {
                x.fill(1, 0);
            }
            check.due("an empty one or a link is something" + what, 1, () -> x.build(4) > 12 ? 1 : 0);
            x.unset(1, 0);
            check.refused("nothing again" + what, STATE, () -> x.build(4));
            x.unset(2, 0);
            check.due("not linked any more" + what, 1, () -> x.build(4) > 12 ? 1 : 0);
        }
    }

    /** The first record and the last one of all, and one that an earlier building came to. */
    private static void requiredOfTheFirstAndTheLast() {
        check.sentence("Promise 9", "IllegalStateException: the record, or one that it comes to by links, "
            + "has nothing in a required field.");
        FlatStore x = new FlatStore();
        x.field(0, 4, 0, true);
        x.field(0, 6, 0, false);
        for (int i = 0; i < 16; i++) {
            x.make(0);
        }
        check.refused("the first", STATE, () -> x.build(0));
        check.refused("the last", STATE, () -> x.build(15));
        x.fill(15, 0);
        x.link(15, 1, 0);
        check.refused("the last by the first", STATE, () -> x.build(15));
        x.unset(15, 1);
        check.due("the last, not linked any more", 1, () -> x.build(15) > 12 ? 1 : 0);
        check.refused("the first still", STATE, () -> x.build(0));
        x.link(15, 1, 14);
        check.refused("the last by the one before it", STATE, () -> x.build(15));
        x.fill(14, 0);
        check.due("both have it", 1, () -> x.build(15) > 12 ? 1 : 0);
    }

    /** Each record has five links to the one below: more ways than could be gone one by one. */
    private static void requiredByAnyWay() {
        check.sentence("Promise 9", "IllegalStateException: the record, or one that it comes to by links, "
            + "has nothing in a required field.");
        FlatStore x = withKinds(6, 6, 6, 6, 6);
        x.field(0, 4, 0, true);
        for (int record = 1; record < 16; record++) {
            x.make(0);
            x.fill(record, 5);
            for (int field = 0; field < 5; field++) {
                x.link(record, field, record - 1);
            }
        }
        check.refused("at the end of all ways", STATE, () -> x.build(15));
        x.fill(0, 5);
        check.refused("too large then", BOUNDS, () -> x.build(15));
        check.due("the last ones alone", 124, () -> x.build(2));
        x.unset(2, 5);
        check.refused("at the beginning", STATE, () -> x.build(2));
        check.due("below it", 88, () -> x.build(1));
    }

    private static void tooLarge() {
        check.sentence("Promise 9", "IndexOutOfBoundsException: there would be more than 240 bytes.");
        FlatStore x = Sample.large(0, 3, 7);
        check.due("240", 240, () -> x.build(1));
        check.due("verify", 2, () -> x.verify(0));
        Sample.text(x, 0, 1, 11);
        check.refused("244", BOUNDS, () -> x.build(1));
        check.due("still verified", 1, () -> x.count(4));
        check.due("the data stays", 240, () -> x.count(0));
        check.due("the text of before", 12, () -> x.size(4));
        x.down(5);
        check.due("and of the other record", 7, () -> x.size(1));
        Sample.text(x, 0, 0, 12);
        check.refused("far too large", BOUNDS, () -> x.build(1));
        x.unset(0, 0);
        check.due("smaller", 232, () -> x.build(1));
    }

    private static void tooLargeWithLongs() {
        check.sentence("Promise 9", "IndexOutOfBoundsException: there would be more than 240 bytes.");
        FlatStore x = withKinds(3, 3, 3, 3, 3, 6);
        x.field(1, 6, 0, false);
        x.field(1, 4, 0, false);
        x.field(1, 0, 0, false);
        x.make(0);
        x.make(0);
        x.make(1);
        for (int record = 0; record < 3; record++) {
            for (int field = 0; field < 5; field++) {
                x.number(record, field, -1);
            }
        }
        x.link(1, 5, 0);
        x.link(2, 5, 1);
        x.link(3, 0, 2);
        Sample.text(x, 3, 1, 12);
        check.due("240", 240, () -> x.build(3));
        check.due("verify", 4, () -> x.verify(1));
        x.number(3, 2, 1);
        check.refused("one byte more makes 248", BOUNDS, () -> x.build(3));
        check.due("the data stays", 240, () -> x.count(0));
        check.due("still verified", 1, () -> x.count(4));
        check.due("without the byte", 0, () -> x.value(2));
        x.number(3, 2, 0);
        check.due("240 again", 240, () -> x.build(3));
    }
}
