import java.util.NoSuchElementException;

/** Promise 9 (build), with the bytes counted out by hand from the document. */
public final class BuildTest {
    private static final Class<IllegalStateException> STATE = IllegalStateException.class;
    private static final Check check = new Check("BuildTest");

    public static void main(String[] args) {
        noFields();
        allKinds();
        sharedOffsets();
        otherOffsets();
        offsetsThatBeginAlike();
        offsetsFarAway();
        allOffsetsApart();
        defaults();
        negativeNumbers();
        putOnce();
        emptyItems();
        alignedItems();
        widestOfAll();
        anew();
        noSuchRecord();
        required();
        manyWays();
        tooLarge();
        longestChain();
        check.end();
    }

    private static void noFields() {
        FlatStore x = new FlatStore();
        x.make(3);
        check.due("build", 12, () -> x.build(0));
        check.bytes("no fields", x, 8, 0, 0, 0, 4, 0, 4, 0, 4, 0, 0, 0);
    }

    private static void allKinds() {
        check.bytes("all kinds", Sample.built(), Sample.builtBytes());
    }

    /** The second record finds the offsets of the first one, behind it in the building. */
    private static void sharedOffsets() {
        FlatStore x = new FlatStore();
        x.field(1, 6, 0, false);
        x.field(1, 6, 0, false);
        x.make(0);
        x.make(0);
        x.make(1);
        x.link(2, 0, 0);
        x.link(2, 1, 1);
        check.due("build", 36, () -> x.build(2));
        check.bytes("shared offsets", x,
            12, 0, 0, 0, 8, 0, 12, 0, 8, 0, 4, 0, 8, 0, 0, 0, 8, 0, 0, 0, 12, 0, 0, 0,
            252, 255, 255, 255, 4, 0, 4, 0, 4, 0, 0, 0);
    }

    private static void otherOffsets() {
        FlatStore x = new FlatStore();
        x.field(0, 0, 0, false);
        x.field(0, 0, 0, false);
        x.field(0, 6, 0, false);
        x.make(0);
        x.make(0);
        x.number(0, 0, 1);
        x.number(1, 1, 2);
        x.link(1, 2, 0);
        check.due("build", 40, () -> x.build(1));
        check.bytes("other offsets", x,
            16, 0, 0, 0, 0, 0, 10, 0, 10, 0, 0, 0, 9, 0, 4, 0, 10, 0, 0, 0, 12, 0, 0, 0, 0, 2,
            6, 0, 8, 0, 7, 0, 6, 0, 0, 0, 0, 0, 0, 1);
    }

    /** Of two shorts and of the first one alone: the same but for how many they are. */
    private static void offsetsThatBeginAlike() {
        FlatStore x = new FlatStore();
        x.field(0, 1, 0, false);
        x.field(0, 1, 0, false);
        x.field(1, 6, 0, false);
        x.field(1, 6, 0, false);
        x.make(0);
        x.make(0);
        x.make(1);
        x.number(0, 0, 1);
        x.number(0, 1, 2);
        x.number(1, 0, 3);
        x.link(2, 0, 0);
        x.link(2, 1, 1);
        for (int i = 0; i < 2; i++) {
            check.due("the longer first", 56, () -> x.build(2));
            check.bytes("the longer first", x,
                12, 0, 0, 0, 8, 0, 14, 0, 8, 0, 4, 0, 8, 0, 0, 0, 16, 0, 0, 0, 28, 0, 0, 0, 0, 0,
                6, 0, 8, 0, 6, 0, 6, 0, 0, 0, 0, 0, 3, 0, 8, 0, 8, 0, 6, 0, 4, 0, 8, 0, 0, 0, 2, 0, 1, 0);
            x.link(2, 0, 1);
            x.link(2, 1, 0);
            check.due("the shorter first", 56, () -> x.build(2));
            x.link(2, 0, 0);
            x.link(2, 1, 1);
        }
    }

    private static void offsetsFarAway() {
        FlatStore x = new FlatStore();
        for (int i = 0; i < 6; i++) {
            x.field(1, 4, 0, true);
        }
        for (int table : new int[] {0, 1, 0}) {
            x.field(2, 6, table, true);
            x.make(table);
        }
        x.make(2);
        for (int i = 0; i < 6; i++) {
            Sample.text(x, 1, i, 12);
        }
        for (int i = 0; i < 3; i++) {
            x.link(3, i, i);
        }
        check.due("build", 208, () -> x.build(3));
        int[] back = {88, 255, 255, 255};
        for (int i = 0; i < 4; i++) {
            int address = 32 + i;
            check.due("168 bytes back, byte " + i, back[i], () -> x.at(address));
        }
    }

    /** As many offsets as there can be: more than the data can hold, and refused as that. */
    private static void allOffsetsApart() {
        FlatStore x = new FlatStore();
        for (int i = 0; i < 5; i++) {
            x.field(0, 0, 0, false);
        }
        x.field(0, 6, 0, false);
        for (int record = 0; record < 16; record++) {
            x.make(0);
            for (int field = 0; field < 4; field++) {
                x.number(record, field, record >> field & 1);
            }
            if (record > 0) {
                x.link(record, 5, record - 1);
            }
        }
        check.refused("16 records", IndexOutOfBoundsException.class, () -> x.build(15));
        check.due("no data", 0, () -> x.count(0));
        check.due("some of them", 124, () -> x.build(4));
        check.due("all of them are there", 5, () -> x.verify(0));
    }

    private static void defaults() {
        FlatStore x = new FlatStore();
        x.field(0, 0, -1, false);
        x.field(0, 3, 7, false);
        x.field(0, 1, 0, false);
        x.make(0);
        x.number(0, 0, 255);
        x.number(0, 1, 7);
        x.number(0, 2, 65536);
        check.due("only defaults", 12, () -> x.build(0));
        x.number(0, 1, 4294967296L + 7);
        check.due("a long with the lowest bits of the default", 24, () -> x.build(0));
        check.bytes("a long", x,
            12, 0, 0, 0, 8, 0, 12, 0, 0, 0, 4, 0, 8, 0, 0, 0, 7, 0, 0, 0, 1, 0, 0, 0);
    }

    private static void negativeNumbers() {
        FlatStore x = new FlatStore();
        x.field(0, 0, 0, false);
        x.field(0, 1, 0, false);
        x.field(0, 2, 0, false);
        x.make(0);
        x.number(0, 0, -2);
        x.number(0, 1, 0x1234);
        x.number(0, 2, 0x89ABCDEFL);
        check.due("build", 28, () -> x.build(0));
        check.bytes("negative numbers", x,
            16, 0, 0, 0, 0, 0, 10, 0, 12, 0, 11, 0, 8, 0, 4, 0, 10, 0, 0, 0,
            0xEF, 0xCD, 0xAB, 0x89, 0x34, 0x12, 0, 0xFE);
    }

    private static void putOnce() {
        FlatStore x = new FlatStore();
        x.field(1, 6, 0, false);
        x.field(1, 6, 0, false);
        x.make(0);
        x.make(1);
        x.link(1, 0, 0);
        x.link(1, 1, 0);
        check.due("build", 32, () -> x.build(1));
        check.bytes("put once", x,
            12, 0, 0, 0, 8, 0, 12, 0, 8, 0, 4, 0, 8, 0, 0, 0, 12, 0, 0, 0, 8, 0, 0, 0,
            4, 0, 4, 0, 4, 0, 0, 0);
    }

    private static void emptyItems() {
        FlatStore x = new FlatStore();
        x.field(0, 5, 0, true);
        x.field(0, 4, 0, true);
        x.make(0);
        x.fill(0, 0);
        x.fill(0, 1);
        check.due("build", 36, () -> x.build(0));
        check.bytes("empty items", x,
            12, 0, 0, 0, 8, 0, 12, 0, 8, 0, 4, 0, 8, 0, 0, 0, 8, 0, 0, 0, 12, 0, 0, 0,
            0, 0, 0, 0, 0, 0, 0, 0, 0, 0, 0, 0);
    }

    /** Texts of 3 and 4 characters and a row of 1: where the zeros of an alignment lie. */
    private static void alignedItems() {
        FlatStore x = new FlatStore();
        x.field(0, 4, 0, false);
        x.field(0, 4, 0, false);
        x.field(0, 5, 0, false);
        x.make(0);
        Sample.text(x, 0, 0, 3);
        Sample.text(x, 0, 1, 4);
        x.add(-2);
        x.fill(0, 2);
        check.due("build", 60, () -> x.build(0));
        check.bytes("aligned items", x,
            16, 0, 0, 0, 0, 0, 10, 0, 16, 0, 12, 0, 8, 0, 4, 0, 10, 0, 0, 0,
            12, 0, 0, 0, 16, 0, 0, 0, 24, 0, 0, 0, 1, 0, 0, 0, 254, 255, 0, 0,
            4, 0, 0, 0, 'a', 'b', 'c', 'd', 0, 0, 0, 0, 3, 0, 0, 0, 'a', 'b', 'c', 0);
    }

    /** A long in a record far behind aligns the whole buffer to 8. */
    private static void widestOfAll() {
        FlatStore x = new FlatStore();
        x.field(0, 3, 0, false);
        x.field(1, 6, 0, false);
        x.make(0);
        x.make(1);
        x.number(0, 0, 1);
        x.link(1, 0, 0);
        check.due("build", 40, () -> x.build(1));
        check.bytes("widest of all", x,
            12, 0, 0, 0, 0, 0, 6, 0, 10, 0, 4, 0, 6, 0, 0, 0, 12, 0, 0, 0, 0, 0, 6, 0, 12, 0, 4, 0,
            6, 0, 0, 0, 1, 0, 0, 0, 0, 0, 0, 0);
    }

    /** Nothing of an earlier building is left: neither bytes nor places nor offsets. */
    private static void anew() {
        FlatStore x = Sample.built();
        check.due("the other record", 20, () -> x.build(0));
        check.bytes("the other record", x,
            12, 0, 0, 0, 0, 0, 6, 0, 8, 0, 6, 0, 6, 0, 0, 0, 0, 0, 7, 0);
        check.due("the first again", 80, () -> x.build(1));
        check.bytes("the first again", x, Sample.builtBytes());
    }

    private static void noSuchRecord() {
        FlatStore x = Sample.verified();
        check.refused("build(2)", NoSuchElementException.class, () -> x.build(2));
        check.refused("build(-1)", NoSuchElementException.class, () -> x.build(-1));
        check.refused("build(16)", NoSuchElementException.class, () -> x.build(16));
        check.due("still verified", 1, () -> x.count(4));
        check.due("a build ends that", 80, () -> x.build(1));
        check.due("not verified", 0, () -> x.count(4));
    }

    private static void required() {
        for (int kind = 4; kind < 7; kind++) {
            FlatStore x = new FlatStore();
            x.field(0, kind, 1, true);
            x.field(2, 6, 0, false);
            x.make(1);
            x.make(0);
            x.make(2);
            x.make(2);
            x.link(2, 0, 1);
            check.refused("itself, kind " + kind, STATE, () -> x.build(1));
            check.refused("by a link, kind " + kind, STATE, () -> x.build(2));
            check.due("not linked", 12, () -> x.build(3));
            x.verify(2);
            check.refused("once more, kind " + kind, STATE, () -> x.build(2));
            check.due("still verified", 1, () -> x.count(4));
            check.due("the data stays", 12, () -> x.count(0));
        }
    }

    /** Each record has five links to the one below: more ways than could be gone one by one. */
    private static void manyWays() {
        FlatStore x = new FlatStore();
        for (int i = 0; i < 5; i++) {
            x.field(0, 6, 0, false);
        }
        x.field(0, 4, 0, true);
        for (int record = 0; record < 16; record++) {
            x.make(0);
            if (record > 0) {
                x.fill(record, 5);
                for (int field = 0; field < 5; field++) {
                    x.link(record, field, record - 1);
                }
            }
        }
        check.refused("required at the end of all ways", STATE, () -> x.build(15));
        x.fill(0, 5);
        check.refused("too large then", IndexOutOfBoundsException.class, () -> x.build(15));
        check.due("the last ones alone", 124, () -> x.build(2));
    }

    private static void tooLarge() {
        FlatStore x = Sample.large(3, 7);
        check.due("240", 240, () -> x.build(1));
        check.due("verify", 2, () -> x.verify(0));
        Sample.text(x, 0, 1, 11);
        check.refused("244", IndexOutOfBoundsException.class, () -> x.build(1));
        check.due("still verified", 1, () -> x.count(4));
        check.due("the data stays", 240, () -> x.count(0));
        check.due("the text of before", 12, () -> x.size(4));
        x.link(1, 5, 0);
        x.down(5);
        check.due("and of the other record", 7, () -> x.size(1));
        Sample.text(x, 0, 0, 12);
        check.refused("far too large", IndexOutOfBoundsException.class, () -> x.build(1));
        x.unset(0, 0);
        check.due("smaller", 232, () -> x.build(1));
    }

    private static void longestChain() {
        FlatStore x = new FlatStore();
        x.field(0, 6, 0, false);
        x.make(0);
        for (int record = 1; record < 16; record++) {
            x.make(0);
            x.link(record, 0, record - 1);
        }
        check.due("16 records within one another", 148, () -> x.build(15));
        check.due("the last one put lies first", 4, () -> x.at(0));
        check.due("the first one put lies last", 4, () -> x.at(144));
    }
}
