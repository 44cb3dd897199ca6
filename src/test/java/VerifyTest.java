/** Promises 13 (verify) and 14 (fault): each thing that can be wrong, and what just is not. */
public final class VerifyTest {
    private static final Class<IllegalArgumentException> ARGUMENT = IllegalArgumentException.class;
    private static final Check check = new Check("VerifyTest");

    public static void main(String[] args) {
        firstAddress();
        offsetsAddress();
        offsetsSizes();
        fieldOffsets();
        texts();
        rows();
        tables();
        order();
        longText();
        sixWithinOneAnother();
        sixteenTables();
        itself();
        faults();
        verifiedUntil();
        otherTables();
        oddSizes();
        check.end();
    }

    /** Pairs of an address and a byte are patched into the sample; fault -1 means none. */
    private static void patched(String what, int fault, int tables, int... pairs) {
        FlatStore x = Sample.built();
        String told = what + " " + java.util.Arrays.toString(pairs);
        for (int i = 0; i < pairs.length; i += 2) {
            x.patch(pairs[i], pairs[i + 1]);
        }
        if (fault < 0) {
            check.due(told + ": verify", tables, () -> x.verify(0));
            check.due(told + ": verified", 1, () -> x.count(4));
        } else {
            check.refused(told + ": verify", ARGUMENT, () -> x.verify(0));
            check.due(told + ": not verified", 0, () -> x.count(4));
        }
        check.due(told + ": fault", fault, x::fault);
    }

    private static void wrong(String what, int fault, int... pairs) {
        patched(what, fault, 0, pairs);
    }

    private static void right(String what, int tables, int... pairs) {
        patched(what, -1, tables, pairs);
    }

    private static void firstAddress() {
        right("as built", 2);
        wrong("no multiple of 4", 0, 0, 22);
        wrong("no multiple of 4", 0, 0, 21);
        wrong("the last 4 bytes: offsets below 0", 76, 0, 76);
        wrong("behind the end", 0, 0, 80);
        wrong("far behind", 0, 1, 1);
        wrong("above 100000", 0, 2, 255);
        wrong("no sign", 0, 3, 255);
        wrong("no sign", 0, 0, 252, 1, 255, 2, 255, 3, 255);
        FlatStore x = Sample.built();
        x.cut(4);
        check.refused("4 bytes", ARGUMENT, () -> x.verify(0));
        check.due("4 bytes", 0, x::fault);
        x.patch(0, 0);
        check.refused("4 zeros: the offsets are no offsets", ARGUMENT, () -> x.verify(0));
        check.due("4 zeros", 0, x::fault);
        for (int size = 3; size >= 0; size--) {
            x.cut(size);
            check.refused(size + " bytes", ARGUMENT, () -> x.verify(0));
            check.due(size + " bytes", 0, x::fault);
        }
    }

    private static void offsetsAddress() {
        wrong("odd", 20, 20, 13);
        wrong("below 0", 20, 20, 22);
        wrong("at 0, where the size is 20 and the span 0", 2, 20, 20);
        wrong("78, too near to the end", 20, 20, 198, 21, 255, 22, 255, 23, 255);
        wrong("76, with a size too great", 76, 20, 200, 21, 255, 22, 255, 23, 255);
        wrong("far above", 20, 20, 0, 23, 128);
        wrong("far below", 20, 20, 255, 21, 255, 22, 255, 23, 127);
        wrong("far below", 20, 20, 254, 21, 255, 22, 255, 23, 127);
    }

    private static void offsetsSizes() {
        wrong("odd", 6, 6, 15);
        wrong("0", 6, 6, 0);
        wrong("2", 6, 6, 2);
        wrong("3", 6, 6, 3);
        wrong("4: the required one is not told", 20, 6, 4);
        wrong("6: the required one is not told", 20, 6, 6);
        right("8: just told", 1, 6, 8);
        right("to the very end", 2, 6, 74);
        wrong("past the end", 6, 6, 76);
        wrong("without sign", 6, 7, 255);
        wrong("span 0", 8, 8, 0);
        wrong("span 3", 8, 8, 3);
        wrong("span 4", 10, 8, 4);
        right("span to the very end", 2, 8, 60);
        wrong("span past the end", 8, 8, 61);
        wrong("span without sign", 8, 9, 255);
        wrong("span before the byte's end", 10, 8, 29);
        right("span 4 with nothing in it", 2, 52, 4, 54, 0);
    }

    private static void fieldOffsets() {
        right("no byte", 2, 10, 0);
        wrong("no text", 20, 12, 0);
        right("no row", 2, 14, 0);
        right("no other table", 1, 16, 0);
        right("no long", 2, 18, 0);
        wrong("1", 10, 10, 1);
        wrong("3", 10, 10, 3);
        right("4", 2, 10, 4);
        wrong("the byte behind the span", 10, 10, 30);
        wrong("without sign", 10, 11, 255);
        wrong("text not aligned", 12, 12, 26);
        wrong("row not aligned", 14, 14, 21);
        wrong("table not aligned", 16, 16, 18);
        wrong("long not aligned", 18, 18, 8);
        wrong("long not aligned", 18, 18, 5);
        wrong("text before its span", 12, 12, 28);
        wrong("long past its span", 18, 18, 28);
        wrong("short not aligned", 54, 54, 5);
        right("another short", 2, 54, 4);
        wrong("short past its span", 54, 54, 8);
        wrong("short past its span", 54, 52, 7);
    }

    private static void texts() {
        wrong("not aligned", 44, 44, 29);
        wrong("not aligned", 44, 44, 30);
        wrong("too many characters", 44, 44, 32);
        wrong("behind the end", 44, 44, 36);
        wrong("far behind", 44, 47, 255);
        wrong("far behind", 44, 44, 252, 45, 255, 46, 255, 47, 255);
        right("3 characters", 2, 72, 3);
        wrong("4 characters", 44, 72, 4);
        wrong("no zero behind 1", 44, 72, 1);
        wrong("no zero behind 0", 44, 72, 0);
        wrong("no zero", 44, 78, 1);
        wrong("no zero", 44, 78, 128);
        right("the last byte may be any", 2, 79, 1);
        wrong("far too many", 44, 75, 255);
        wrong("far too many", 44, 75, 128);
        right("a text where it is told", 2, 44, 0);
        right("a character above 127", 2, 76, 200);
        right("the row read as a text", 2, 44, 20, 64, 2, 68, 1, 70, 0);
    }

    private static void rows() {
        wrong("not aligned", 40, 40, 25);
        wrong("not aligned", 40, 40, 26);
        wrong("not aligned, but for that an empty row", 40, 40, 26, 68, 0);
        wrong("behind the end", 40, 40, 40);
        wrong("far behind", 40, 43, 128);
        right("6 shorts", 2, 64, 6);
        wrong("7 shorts", 40, 64, 7);
        wrong("far too many", 40, 67, 128);
        wrong("too many", 40, 66, 1);
        right("none", 2, 64, 0);
        right("an empty one in the last bytes", 2, 40, 36, 76, 0, 77, 0, 72, 3);
    }

    private static void tables() {
        wrong("not aligned", 36, 36, 21);
        wrong("not aligned", 36, 36, 22);
        wrong("behind the end", 36, 36, 44);
        wrong("far behind", 36, 39, 255);
        wrong("its offsets odd", 56, 56, 7);
        wrong("its offsets below 0", 56, 56, 58);
        wrong("their size", 50, 50, 5);
        wrong("their size", 50, 50, 32);
        right("their size", 2, 50, 30);
        wrong("their span", 52, 52, 3);
        wrong("their span", 52, 52, 25);
        right("their span", 2, 52, 24);
        wrong("its field", 54, 54, 3);
    }

    private static void order() {
        wrong("the lower field first", 44, 78, 1, 64, 7, 18, 5);
        wrong("the row next", 40, 64, 7, 50, 5, 18, 5);
        wrong("what lies within first", 50, 50, 5, 18, 5);
        wrong("what lies within first", 54, 54, 3, 18, 5);
        wrong("the last field at last", 18, 18, 5);
        wrong("size, then span", 6, 6, 15, 8, 3);
        wrong("span, then fields", 8, 8, 3, 10, 3);
        wrong("address, then size", 20, 20, 13, 6, 15);
        wrong("required in its turn", 10, 10, 3, 12, 0);
        wrong("required in its turn", 20, 12, 0, 14, 21);
    }

    /** 200 characters are the most that a text may have. */
    private static void longText() {
        FlatStore x = Sample.large(3, 7);
        x.build(1);
        x.field(1, 4, 0, true);
        int[] start = {12, 0, 0, 0, 6, 0, 8, 0, 4, 0, 0, 0, 8, 0, 0, 0, 4, 0, 0, 0, 200, 0, 0, 0};
        for (int i = 0; i < start.length; i++) {
            x.patch(i, start[i]);
        }
        x.patch(224, 0);
        x.patch(225, 0);
        check.due("200", 1, () -> x.verify(1));
        check.due("size", 200, () -> x.size(0));
        for (int high = 5; high <= 9; high += 2) {
            x.patch(high, 1);
            check.refused("a high byte at " + high, ARGUMENT, () -> x.verify(1));
            check.due("a high byte at " + high, high - 1, x::fault);
            x.patch(high, 0);
        }
        x.patch(20, 201);
        check.refused("201", ARGUMENT, () -> x.verify(1));
        check.due("201", 16, x::fault);
        x.patch(20, 199);
        x.patch(223, 7);
        check.refused("199 without a zero", ARGUMENT, () -> x.verify(1));
        x.patch(223, 0);
        check.due("199", 1, () -> x.verify(1));
    }

    private static void sixWithinOneAnother() {
        FlatStore x = new FlatStore();
        x.field(0, 6, 0, false);
        x.make(0);
        for (int record = 1; record < 8; record++) {
            x.make(0);
            x.link(record, 0, record - 1);
        }
        for (int record = 0; record < 6; record++) {
            x.build(record);
            check.due("chain of " + (record + 1), record + 1, () -> x.verify(0));
        }
        x.build(6);
        check.refused("chain of 7", ARGUMENT, () -> x.verify(0));
        check.due("told by the sixth", 64, x::fault);
        x.build(7);
        check.refused("chain of 8", ARGUMENT, () -> x.verify(0));
        check.due("told by the sixth", 56, x::fault);
    }

    private static void sixteenTables() {
        FlatStore x = new FlatStore();
        for (int i = 0; i < 6; i++) {
            x.field(1, 6, 0, false);
            x.field(2, 6, 1, false);
        }
        x.make(0);
        x.make(1);
        x.make(1);
        x.make(2);
        for (int i = 0; i < 6; i++) {
            x.link(1, i, 0);
        }
        x.link(3, 0, 1);
        x.link(3, 1, 1);
        x.link(3, 2, 2);
        x.build(3);
        check.due("16 tables, most of them twice", 16, () -> x.verify(2));
        x.link(2, 5, 0);
        x.build(3);
        check.refused("17 tables", ARGUMENT, () -> x.verify(2));
        int told = x.fault();
        check.due("at the field of the third", 0, () -> told % 4);
        int first = x.at(0);
        int third = first + 4 + x.at(first + 4);
        check.due("at the field of the third", third + 4, () -> told);
        x.unset(2, 5);
        x.link(3, 5, 2);
        x.build(3);
        check.refused("17 tables", ARGUMENT, () -> x.verify(2));
        check.due("at the last field of the first", x.at(0) + 4, x::fault);
    }

    /** Data can tell of tables without end. */
    private static void itself() {
        FlatStore x = new FlatStore();
        x.field(0, 2, 0, false);
        x.make(0);
        x.number(0, 0, -1);
        x.build(0);
        x.field(1, 6, 1, false);
        check.due("the number is at 16", 255, () -> x.at(16));
        check.refused("a reference far away", ARGUMENT, () -> x.verify(1));
        check.due("a reference far away", 16, x::fault);
        for (int i = 16; i < 20; i++) {
            x.patch(i, 0);
        }
        check.refused("a reference to itself", ARGUMENT, () -> x.verify(1));
        check.due("its offsets would be itself", 16, x::fault);
    }

    private static void faults() {
        FlatStore x = Sample.built();
        check.due("none yet", -1, x::fault);
        check.refused("no such table", ARGUMENT, () -> x.verify(4));
        check.due("none for a table", -1, x::fault);
        x.patch(8, 3);
        check.refused("verify", ARGUMENT, () -> x.verify(0));
        check.due("fault", 8, x::fault);
        check.due("fault stays", 8, x::fault);
        check.refused("no such table", ARGUMENT, () -> x.verify(-1));
        check.due("fault stays", 8, x::fault);
        x.patch(8, 30);
        check.due("a patch leaves it", 8, x::fault);
        x.build(1);
        check.due("a build leaves it", 8, x::fault);
        check.due("verify", 2, () -> x.verify(0));
        check.due("none any more", -1, x::fault);
        x.cut(0);
        check.due("a cut makes none", -1, x::fault);
    }

    private static void verifiedUntil() {
        FlatStore x = Sample.verified();
        for (int table : new int[] {-1, 4, Integer.MIN_VALUE, Integer.MAX_VALUE}) {
            check.refused("verify(" + table + ")", ARGUMENT, () -> x.verify(table));
            check.due("still verified", 1, () -> x.count(4));
        }
        x.down(3);
        check.due("verify again", 2, () -> x.verify(0));
        check.due("the cursor is at the first table", 0, () -> x.count(5));
        x.field(2, 4, 0, true);
        x.verify(0);
        check.refused("the byte is no text", ARGUMENT, () -> x.verify(2));
        check.due("fault", 10, x::fault);
        check.due("no table at the cursor", -1, () -> x.count(5));
        check.due("not verified", 0, () -> x.count(4));
    }

    /** The last byte of the sample is gone: what needs it is wrong. */
    private static void oddSizes() {
        cutByOne("the first table", 0, 0, 76);
        cutByOne("the offsets", 20, 20, 200, 21, 255, 22, 255, 23, 255);
        cutByOne("the size", 6, 6, 74);
        cutByOne("the span", 8, 8, 60);
        cutByOne("the text", 44, 72, 3);
        cutByOne("the row", 40, 64, 6);
        cutByOne("the other table", 36, 36, 40);
    }

    private static void cutByOne(String what, int fault, int... pairs) {
        FlatStore x = Sample.built();
        x.cut(79);
        check.due(what + ": verify", 2, () -> x.verify(0));
        for (int i = 0; i < pairs.length; i += 2) {
            x.patch(pairs[i], pairs[i + 1]);
        }
        check.refused(what + ": patched", ARGUMENT, () -> x.verify(0));
        check.due(what + ": fault", fault, x::fault);
    }

    private static void otherTables() {
        FlatStore x = Sample.built();
        check.due("a table without fields", 1, () -> x.verify(3));
        check.due("its table", 3, () -> x.count(5));
        check.due("verify for table 0", 2, () -> x.verify(0));
        x.field(3, 0, 1, false);
        x.field(3, 5, 1, true);
        check.due("the text as a row", 1, () -> x.verify(3));
        check.due("of 2", 2, () -> x.size(1));
        check.due("shorts", 'H' + 256 * 'i', () -> x.element(1, 0));
    }
}
