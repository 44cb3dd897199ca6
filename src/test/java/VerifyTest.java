/**
 * The terms of verifying, promises 13 (verify) and 14 (fault): each thing that can be wrong, and what
 * just is not, in bytes that are written out by hand.
 */
public final class VerifyTest {
    private static final Class<IllegalArgumentException> ARGUMENT = IllegalArgumentException.class;
    private static final Class<IllegalStateException> STATE = IllegalStateException.class;
    private static final int BYTE = 0;
    private static final int TEXT = 4;
    private static final int ROW = 5;
    private static final int TABLE = 6;
    /** Added to a kind: the field is required. */
    private static final int MUST = 8;
    private static final Check check = new Check("VerifyTest");

    public static void main(String[] args) {
        Runnable[] tests = {
            VerifyTest::sizesOfData, VerifyTest::order, VerifyTest::orderWithin,
            VerifyTest::fourBytes, VerifyTest::firstTable, VerifyTest::otherTable,
            VerifyTest::sixteenTables, VerifyTest::sixWithinOneAnother, VerifyTest::placeOfOffsets,
            VerifyTest::sizeOfOffsets, VerifyTest::span, VerifyTest::offsetsThatAreTold,
            VerifyTest::requiredFields, VerifyTest::offsetsOfFields, VerifyTest::whatAFieldRefersTo,
            VerifyTest::texts, VerifyTest::longTexts, VerifyTest::rows, VerifyTest::longRows,
            VerifyTest::tablesWithin, VerifyTest::withoutSign, VerifyTest::endOfVerified,
            VerifyTest::notTheEndOfVerified, VerifyTest::verifiedAnew, VerifyTest::cursorAtTheFirst,
            VerifyTest::tablesGoneInto, VerifyTest::noTable, VerifyTest::faultOfVerify,
            VerifyTest::faultOfTheLast, VerifyTest::noFault};
        check.all(tests);
        check.end();
    }

    /** Table 0 gets fields of these kinds; those of kind 6 are of table 1, which has none. */
    private static FlatStore withFields(Bytes data, int... kinds) {
        FlatStore x = data.store();
        for (int kind : kinds) {
            x.field(0, kind % MUST, kind % MUST == TABLE ? 1 : 0, kind >= MUST);
        }
        return x;
    }

    private static void right(String what, int tables, Bytes data, int... kinds) {
        isRight(what, tables, withFields(data, kinds));
    }

    private static void isRight(String what, int tables, FlatStore x) {
        check.due(what + ": verify", tables, () -> x.verify(0));
        check.due(what + ": verified", 1, () -> x.count(4));
        check.due(what + ": no fault", -1, x::fault);
    }

    private static void wrong(String what, int fault, Bytes data, int... kinds) {
        isWrong(what, fault, withFields(data, kinds));
    }

    private static void isWrong(String what, int fault, FlatStore x) {
        check.refused(what + ": verify", ARGUMENT, () -> x.verify(0));
        check.due(what + ": not verified", 0, () -> x.count(4));
        check.due(what + ": fault", fault, x::fault);
    }

    /** 24 bytes: the table at 12, its offsets at 4, for no field, its span to the end. */
    private static Bytes plain() {
        return new Bytes(24).four(0, 12).table(12, 4, 4, 12);
    }

    /** The table at 12, its offsets at 4, for one field at 16, which refers to an address. */
    private static Bytes referring(int size, int target) {
        return new Bytes(size).four(0, 12).table(12, 4, 6, 8, 4).four(16, target - 16);
    }

    private static void sizesOfData() {
        check.sentence("Terms", "VERIFYING the DATA (0 to 240 bytes at addresses from 0) for a table:");
        wrong("no bytes", 0, new Bytes(0));
        right("12 bytes", 1, new Bytes(12).four(0, 8).table(8, 4, 4, 4));
        right("the table in the last of 240", 1, new Bytes(240).four(0, 236).table(236, 4, 4, 4));
        right("the offsets in the last of 240", 1, new Bytes(240).four(0, 4).table(4, 236, 4, 236));
        right("the span to the last of 240", 1, new Bytes(240).four(0, 12).table(12, 4, 4, 228));
        wrong("the span past it", 6, new Bytes(240).four(0, 12).table(12, 4, 4, 229));
    }

    /** From the last thing on, each thing before it is made wrong too. */
    private static void order() {
        check.sentence("Terms", "the first thing wrong, in this order, is a fault at the address told.");
        Bytes data = new Bytes(48).four(0, 16).table(16, 4, 10, 20, 4, 8, 12).four(20, 20);
        int[] kinds = {TEXT + MUST, ROW, BYTE};
        right("as it is", 1, data, kinds);
        wrong("the last field", 12, data.two(12, 20), kinds);
        wrong("what the field before it has", 24, data.four(24, 23), kinds);
        wrong("its offset", 10, data.two(10, 3), kinds);
        wrong("what the first field has", 20, data.one(44, 1), kinds);
        wrong("its offset", 8, data.two(8, 17), kinds);
        wrong("the first field is required", 16, data.two(8, 0), kinds);
        wrong("the span", 6, data.two(6, 33), kinds);
        wrong("the size", 4, data.two(4, 11), kinds);
        wrong("the place of the offsets", 16, data.four(16, 13), kinds);
        wrong("the table", 0, data.four(0, 48), kinds);
        wrong("the data", 0, data.sized(3), kinds);
    }

    private static void orderWithin() {
        check.sentence("Terms", "the first thing wrong, in this order, is a fault at the address told.");
        Bytes data = new Bytes(52).four(0, 16).table(16, 4, 10, 16, 4, 8, 12)
            .four(20, 12).four(24, 24).table(32, 40, 6, 8, 4).four(36, 12);
        FlatStore x = withFields(data, TABLE, ROW, BYTE);
        x.field(1, ROW, 0, true);
        isRight("as it is", 2, x);
        x.patch(12, 3);
        isWrong("the last field", 12, x);
        x.patch(24, 25);
        isWrong("what the field before it has", 24, x);
        x.patch(36, 13);
        isWrong("what the table within has", 36, x);
        x.patch(44, 3);
        isWrong("its offset within", 44, x);
        x.patch(44, 0);
        isWrong("it is required within", 32, x);
        x.patch(42, 3);
        isWrong("the span within", 42, x);
        x.patch(40, 5);
        isWrong("the size within", 40, x);
        x.patch(32, 247);
        isWrong("the place of the offsets within", 32, x);
        x.patch(20, 13);
        isWrong("the table within", 20, x);
    }

    private static void fourBytes() {
        check.sentence("Terms", "At 0: 4 bytes must be there; the address R in them.");
        for (int size = 0; size < 4; size++) {
            wrong(size + " zeros", 0, new Bytes(size));
            wrong(size + " bytes of data", 0, plain().sized(size));
        }
        wrong("4 zeros: offsets of a size of 0", 0, new Bytes(4));
        wrong("4 bytes that refer to no table", 0, plain().sized(4));
        right("the first byte", 1, plain());
        wrong("the second byte", 0, plain().one(1, 1));
        wrong("the third byte", 0, plain().one(2, 1));
        wrong("the fourth byte", 0, plain().one(3, 1));
    }

    private static void firstTable() {
        check.sentence("Terms", "A TABLE at A (for R told at 0, for another one at the field that refers to "
            + "it): "
            + "A a multiple of 4, A + 4 at most the size;");
        right("12", 1, plain());
        wrong("13", 0, plain().four(0, 13));
        wrong("14", 0, new Bytes(24).four(0, 14).table(14, 4, 4, 4));
        wrong("15", 0, plain().four(0, 15));
        right("in the last 4 bytes", 1, plain().four(0, 20).table(20, 4, 4, 4));
        for (int size = 20; size < 24; size++) {
            wrong("in the last 4, of which are " + (size - 20), 0,
                plain().four(0, 20).table(20, 4, 4, 4).sized(size));
        }
        wrong("behind the end", 0, plain().four(0, 24));
        wrong("far behind the end", 0, plain().four(0, 240));
        wrong("at 0, where 12 is told: the span is 0", 2, plain().table(12, 0));
    }

    private static void otherTable() {
        check.sentence("Terms", "A TABLE at A (for R told at 0, for another one at the field that refers to "
            + "it): "
            + "A a multiple of 4, A + 4 at most the size;");
        right("24", 2, referring(40, 24).table(24, 4), TABLE);
        wrong("25", 16, referring(40, 25).table(25, 4), TABLE);
        wrong("26", 16, referring(40, 26).table(26, 4), TABLE);
        wrong("27", 16, referring(40, 27).table(27, 4), TABLE);
        right("in the last 4 bytes", 2, referring(40, 36).table(36, 28, 4, 4), TABLE);
        for (int size = 36; size < 40; size++) {
            wrong("in the last 4, of which are " + (size - 36), 16,
                referring(40, 36).table(36, 28, 4, 4).sized(size), TABLE);
        }
        wrong("behind the end", 16, referring(40, 40), TABLE);
        wrong("far behind the end", 16, referring(40, 240), TABLE);
    }

    /**
     * The first table at 20 (table 0), one at 48 with six others (table 1), one of these at 76
     * (table 2, without a field), and one at 84 for table 1 with none.
     */
    private static FlatStore manyTables(int... targets) {
        Bytes data = new Bytes(104).four(0, 20).table(48, 4, 16, 28, 4, 8, 12, 16, 20, 24)
            .table(20, 88, 16, 28).table(76, 4).table(84, 80, 4, 4);
        for (int i = 0; i < 6; i++) {
            data.four(52 + 4 * i, 76 - 52 - 4 * i);
            if (i < targets.length) {
                data.two(92 + 2 * i, 4 + 4 * i).four(24 + 4 * i, targets[i] - 24 - 4 * i);
            }
        }
        FlatStore x = data.store();
        for (int i = 0; i < 6; i++) {
            x.field(0, TABLE, 1, false);
            x.field(1, TABLE, 2, false);
        }
        return x;
    }

    private static void sixteenTables() {
        check.sentence("Terms", "and it is not the 17th one in this verifying, "
            + "nor the 7th one within one another: fault where it was told.");
        isRight("1", 1, manyTables());
        isRight("8", 8, manyTables(48));
        isRight("15", 15, manyTables(48, 48));
        FlatStore x = manyTables(48, 48, 84);
        isRight("16", 16, x);
        isRight("16 in the next verifying", 16, x);
        isRight("16 in another order", 16, manyTables(84, 48, 48));
        isWrong("17, the last one by the first table", 36, manyTables(48, 48, 84, 84));
        isWrong("17, the last one of those within", 52, manyTables(48, 48, 48));
        isWrong("17, in another order", 72, manyTables(84, 84, 48, 48));
        FlatStore y = manyTables(48, 48, 48, 48);
        isWrong("more than 17", 52, y);
        isWrong("more than 17 again", 52, y);
    }

    /** Each table refers to the next one behind it, all with the offsets at 4 but for the last one. */
    private static Bytes chain(int tables) {
        int last = 12 + 8 * (tables - 1);
        Bytes data = new Bytes(last + 8).four(0, 12).two(4, 6).two(6, 8).two(8, 4);
        for (int address = 12; address < last; address += 8) {
            data.table(address, 4).four(address + 4, 4);
        }
        return data.table(last, last + 4, 4, 4);
    }

    private static FlatStore chained(int tables) {
        FlatStore x = chain(tables).store();
        x.field(0, TABLE, 0, false);
        return x;
    }

    private static void sixWithinOneAnother() {
        check.sentence("Terms", "and it is not the 17th one in this verifying, "
            + "nor the 7th one within one another: fault where it was told.");
        for (int tables = 1; tables < 7; tables++) {
            isRight(tables + " within one another", tables, chained(tables));
        }
        for (int tables = 7; tables < 20; tables++) {
            isWrong(tables + " within one another", 56, chained(tables));
        }
        isRight("7, but not within one another", 7, manyTables(84, 84, 84, 84, 84, 84));
        Bytes twice = new Bytes(80).four(0, 20).table(20, 12, 8, 12, 4, 8).four(24, 8).four(28, 4);
        twice.two(4, 6).two(6, 8).two(8, 4);
        for (int address = 32; address < 64; address += 8) {
            twice.table(address, 4).four(address + 4, 4);
        }
        FlatStore x = twice.table(64, 68, 4, 4).store();
        x.field(0, TABLE, 0, false);
        x.field(0, TABLE, 0, false);
        isRight("two times 5 within the first", 11, x);
        FlatStore y = Sample.full();
        y.field(0, TABLE, 0, false);
        for (int record = 2; record < 9; record++) {
            y.make(0);
            if (record > 2) {
                y.link(record, 0, record - 1);
            }
        }
        y.build(7);
        isRight("6 that were built", 6, y);
        y.build(8);
        isWrong("7 that were built", 64, y);
    }

    private static void placeOfOffsets() {
        check.sentence("Terms", "V = A less the number with a sign at A: V even and 0 or more, "
            + "V + 4 at most the size: fault at A.");
        right("4", 1, plain());
        for (int odd : new int[] {3, 5, 7, 17, 19}) {
            wrong("odd: " + odd, 12, plain().four(12, 12 - odd));
        }
        wrong("0: its span is 0", 2, plain().four(12, 12));
        wrong("2: its size is 0", 2, plain().four(12, 10));
        for (int below = 1; below < 9; below++) {
            wrong("below 0 by " + below, 12, plain().four(12, 12 + below));
        }
        right("behind the table, in the last bytes", 1, plain().table(12, 20, 4, 4));
        wrong("2 behind that", 12, plain().four(12, 12 - 22));
        wrong("1 behind that", 12, plain().four(12, 12 - 21));
        wrong("at the end", 12, plain().four(12, 12 - 24));
        wrong("of the last 4 bytes are 3", 12, plain().table(12, 20, 4, 4).sized(23));
        wrong("of the last 4 bytes are 2", 12, plain().table(12, 20, 4, 4).sized(22));
        right("the same with 22 bytes", 1, plain().table(12, 18, 4, 4).sized(22));
        long[] far = {0x7FFFFFFFL, 0x7FFFFFFEL, 0x80000000L, 0x8000000CL, 0x8000000EL, 0x80000010L,
            0x80000012L, 0x00010008L, 0xFF000008L, 0x00000108L, 100000, 100008, 100012};
        for (long number : far) {
            wrong("far away: " + number, 12, plain().four(12, number));
        }
        wrong("of a table within", 24, referring(40, 24).four(24, 26), TABLE);
        right("of a table within", 2, referring(40, 24).table(24, 36, 4, 4), TABLE);
        wrong("of a table within, behind the end", 24, referring(40, 24).four(24, 24 - 38), TABLE);
    }

    private static void sizeOfOffsets() {
        check.sentence("Terms", "The number S at V: even, at least 4, V + S at most the size: fault at V.");
        right("4", 1, plain());
        for (int size : new int[] {0, 1, 2, 3, 5, 7, 19, 21}) {
            wrong("" + size, 4, plain().two(4, size));
        }
        right("6", 1, plain().two(4, 6));
        right("to the end", 1, plain().two(4, 20));
        wrong("past the end", 4, plain().two(4, 22));
        right("before the end of 23", 1, plain().sized(23).two(4, 18).two(6, 4));
        wrong("past the end of 23", 4, plain().sized(23).two(4, 20).two(6, 4));
        for (int size : new int[] {260, 32768, 32772, 65532, 65534}) {
            wrong("far past the end: " + size, 4, plain().two(4, size));
        }
        wrong("of a table within", 28, referring(40, 24).table(24, 28, 2, 4), TABLE);
        wrong("of a table within", 28, referring(40, 24).table(24, 28, 14, 4), TABLE);
        right("of a table within", 2, referring(40, 24).table(24, 28, 12, 4), TABLE);
    }

    private static void span() {
        check.sentence("Terms", "The number L at V + 2: at least 4, A + L at most the size: fault at V + 2.");
        for (int span = 0; span < 4; span++) {
            wrong("" + span, 6, plain().two(6, span));
        }
        right("4", 1, plain().two(6, 4));
        right("5", 1, plain().two(6, 5));
        right("to the end", 1, plain().two(6, 12));
        wrong("past the end", 6, plain().two(6, 13));
        right("to the end of 23", 1, plain().sized(23).two(6, 11));
        wrong("past the end of 23", 6, plain().sized(23).two(6, 12));
        for (int span : new int[] {256 + 4, 32768, 32772, 65535, 65532}) {
            wrong("far past the end: " + span, 6, plain().two(6, span));
        }
        wrong("of a table within", 30, referring(40, 24).table(24, 28, 4, 3), TABLE);
        wrong("of a table within", 30, referring(40, 24).table(24, 28, 4, 17), TABLE);
        right("of a table within", 2, referring(40, 24).table(24, 28, 4, 16), TABLE);
    }

    /** The offset of each of six bytes is 1, which is wrong where it is told. */
    private static void offsetsThatAreTold() {
        check.sentence("Terms", "For each field of the table, by rising numbers: its offset O at V + 4 + 2 "
            + "field, "
            + "if that is below V + S, else 0.");
        int[] bytes = {BYTE, BYTE, BYTE, BYTE, BYTE, BYTE};
        for (int field = 0; field < 6; field++) {
            Bytes data = new Bytes(28).four(0, 20).table(20, 4, 0, 8);
            data.two(8 + 2 * field, 1);
            right("field " + field + " is not told", 1, data.two(4, 4 + 2 * field), bytes);
            wrong("field " + field + " is told", 8 + 2 * field, data.two(4, 6 + 2 * field), bytes);
            wrong("field " + field + " and all", 8 + 2 * field, data.two(4, 16), bytes);
            wrong("field " + field + " and more", 8 + 2 * field, data.two(4, 24), bytes);
        }
        Bytes all = new Bytes(28).four(0, 20).table(20, 4, 16, 8, 1, 1, 1, 1, 1, 1);
        right("no field", 1, all);
        wrong("by rising numbers", 8, all, bytes);
        for (int field = 0; field < 5; field++) {
            wrong("by rising numbers, from " + (field + 1), 10 + 2 * field, all.two(8 + 2 * field, 0), bytes);
        }
        wrong("told in the last bytes", 12, new Bytes(14).four(0, 4).table(4, 8, 6, 4, 7), BYTE);
    }

    private static void requiredFields() {
        check.sentence("Terms", "O is 0: a fault at A if it is required.");
        for (int kind = TEXT; kind <= TABLE; kind++) {
            right("0, kind " + kind, 1, referring(40, 20).two(8, 0), kind);
            wrong("0, required, kind " + kind, 12, referring(40, 20).two(8, 0), kind + MUST);
            right("not told, kind " + kind, 1, referring(40, 20).two(4, 4), kind);
            wrong("not told, required, kind " + kind, 12, referring(40, 20).two(4, 4), kind + MUST);
            Bytes there = kind == TABLE ? referring(40, 24).table(24, 4) : referring(40, 20);
            right("there, required, kind " + kind, kind == TABLE ? 2 : 1, there, kind + MUST);
            int[] kinds = {BYTE, BYTE, BYTE, BYTE, BYTE, kind + MUST};
            wrong("the last one, kind " + kind, 20, new Bytes(28).four(0, 20).table(20, 4, 16, 8), kinds);
            FlatStore x = withFields(referring(40, 24).table(24, 28, 4, 4), TABLE);
            x.field(1, kind, 0, true);
            isWrong("in a table within, kind " + kind, 24, x);
        }
        for (int kind = BYTE; kind < TEXT; kind++) {
            right("0, kind " + kind, 1, referring(40, 20).two(8, 0), kind);
        }
    }

    /** One field of a table at 12, with a table at 32 for those of kind 6 and zeros there for others. */
    private static Bytes oneField(int kind, int offset, int span) {
        Bytes data = new Bytes(48).four(0, 12).table(12, 4, 6, span, offset);
        for (int place = 16; place < 32 && kind >= TEXT; place += 4) {
            data.four(place, 32 - place);
        }
        return kind == TABLE ? data.table(32, 36, 4, 4) : data;
    }

    private static void offsetsOfFields() {
        check.sentence("Terms", "Else, with n its size (4 for kinds 4 to 6): O at least 4, O + n at most L, "
            + "A + O a multiple of n: fault at V + 4 + 2 field.");
        int[] widths = {1, 2, 4, 8, 4, 4, 4};
        for (int kind = BYTE; kind <= TABLE; kind++) {
            int n = widths[kind];
            int tables = kind == TABLE ? 2 : 1;
            String what = ", kind " + kind;
            for (int offset = 1; offset < 4; offset++) {
                wrong("O is " + offset + what, 8, oneField(kind, offset, 20), kind);
            }
            right("O is 4" + what, tables, oneField(kind, 4, 20), kind);
            right("O + n is L" + what, tables, oneField(kind, 4, 4 + n), kind);
            wrong("O + n is L + 1" + what, 8, oneField(kind, 4, 3 + n), kind);
            for (int more = 1; more < n; more++) {
                wrong("A + O is " + (16 + more) + what, 8, oneField(kind, 4 + more, 20), kind);
            }
            right("A + O is the next one" + what, tables, oneField(kind, 4 + n, 20), kind);
            right("and O + n is L" + what, tables, oneField(kind, 4 + n, 4 + 2 * n), kind);
            wrong("and O + n is L + 1" + what, 8, oneField(kind, 4 + n, 3 + 2 * n), kind);
            for (int far : new int[] {256 + 4, 32768, 32768 + 4, 65532, 65528, 65535}) {
                wrong("O is " + far + what, 8, oneField(kind, far, 20), kind);
            }
        }
        int[] bytes = {BYTE, BYTE, BYTE, BYTE, BYTE, BYTE};
        for (int field = 0; field < 6; field++) {
            Bytes data = new Bytes(28).four(0, 20).table(20, 4, 16, 8, 4, 5, 6, 7, 4, 7);
            right("six bytes", 1, data, bytes);
            wrong("O + n is L + 1, field " + field, 8 + 2 * field, data.two(8 + 2 * field, 8), bytes);
        }
    }

    private static void whatAFieldRefersTo() {
        check.sentence("Terms", "For kinds 4 to 6: X = A + O plus the number at A + O;");
        right("a text at the field itself", 1, referring(24, 16), TEXT);
        right("a row at the field itself", 1, referring(24, 16), ROW);
        wrong("a table at the field itself: its offsets are of size 0", 16, referring(24, 16), TABLE);
        wrong("not back, for a row", 16, referring(40, 0), ROW);
        wrong("not back, for a text", 16, referring(40, 8).two(8, 4), TEXT);
        wrong("not back, for a table", 16, referring(40, 12), TABLE);
        right("by another offset", 1, referring(40, 0).two(6, 12).two(8, 8).four(20, 8), ROW);
        wrong("the second byte", 16, referring(40, 20 + 256), ROW);
        wrong("the third byte", 16, referring(40, 20 + 65536), ROW);
        wrong("the fourth byte", 16, referring(40, 20 + (1 << 24)), ROW);
    }

    private static void texts() {
        check.sentence("Terms", "TEXT: X a multiple of 4, X + 4 at most the size, with k the number at X: "
            + "k at most 200, X + 5 + k at most the size, a zero at X + 4 + k;");
        right("X is 20", 1, referring(40, 20), TEXT);
        for (int target = 21; target < 24; target++) {
            wrong("X is " + target, 16, referring(40, target), TEXT);
        }
        right("X is 24", 1, referring(40, 24), TEXT);
        right("just an empty one", 1, referring(41, 36), TEXT);
        wrong("no byte for its zero", 16, referring(40, 36), TEXT);
        wrong("not 4 bytes", 16, referring(39, 36), TEXT);
        wrong("X is the size", 16, referring(40, 40), TEXT);
        wrong("X is above the size", 16, referring(40, 44), TEXT);
        right("3 characters to the end", 1, referring(40, 32).four(32, 3), TEXT);
        wrong("4 characters past the end", 16, referring(40, 32).four(32, 4), TEXT);
        wrong("3 characters past the end of 39", 16, referring(39, 32).four(32, 3), TEXT);
        right("2 characters to the end of 39", 1, referring(39, 32).four(32, 2), TEXT);
        for (int end : new int[] {1, 128, 255}) {
            wrong("no zero behind 2 but " + end, 16, referring(40, 32).four(32, 2).one(38, end), TEXT);
            wrong("no zero behind 0 but " + end, 16, referring(40, 32).one(36, end), TEXT);
            wrong("no zero at the end but " + end, 16, referring(40, 32).four(32, 3).one(39, end), TEXT);
            right("behind the zero is " + end, 1, referring(40, 32).four(32, 2).one(39, end), TEXT);
            right("before the zero is " + end, 1, referring(40, 32).four(32, 2).one(37, end), TEXT);
        }
    }

    private static void longTexts() {
        check.sentence("Terms", "TEXT: X a multiple of 4, X + 4 at most the size, with k the number at X: "
            + "k at most 200, X + 5 + k at most the size, a zero at X + 4 + k;");
        right("199", 1, referring(240, 20).four(20, 199), TEXT);
        right("200", 1, referring(240, 20).four(20, 200), TEXT);
        wrong("201", 16, referring(240, 20).four(20, 201), TEXT);
        right("200 to the end", 1, referring(225, 20).four(20, 200), TEXT);
        wrong("200 past the end", 16, referring(224, 20).four(20, 200), TEXT);
        wrong("200 without a zero", 16, referring(240, 20).four(20, 200).one(224, 1), TEXT);
        FlatStore x = withFields(referring(240, 20).four(20, 200).one(223, 255), TEXT);
        isRight("200", 1, x);
        check.due("size", 200, () -> x.size(0));
        check.due("the last character", 255, () -> x.element(0, 199));
        long[] far = {256, 65536, 65537, 100000, 100001, 1L << 24, 0x7FFFFFFFL, 0x80000000L, 0xFFFFFFFFL,
            0xFFFFFFF0L};
        for (long length : far) {
            wrong("" + length, 16, referring(240, 20).four(20, length), TEXT);
        }
    }

    private static void rows() {
        check.sentence("Terms", "ROW: likewise with X + 4 + 2 k at most the size, without that zero;");
        right("X is 20", 1, referring(40, 20), ROW);
        for (int target = 21; target < 24; target++) {
            wrong("X is " + target, 16, referring(40, target), ROW);
        }
        right("X is 24", 1, referring(40, 24), ROW);
        right("an empty one in the last 4 bytes", 1, referring(40, 36), ROW);
        for (int size = 36; size < 40; size++) {
            wrong("of these are " + (size - 36), 16, referring(size, 36), ROW);
        }
        wrong("X is the size", 16, referring(40, 40), ROW);
        wrong("X is above the size", 16, referring(40, 44), ROW);
        right("2 shorts to the end", 1, referring(40, 32).four(32, 2), ROW);
        wrong("3 shorts past the end", 16, referring(40, 32).four(32, 3), ROW);
        wrong("2 shorts past the end of 39", 16, referring(39, 32).four(32, 2), ROW);
        right("1 short before the end of 39", 1, referring(39, 32).four(32, 1), ROW);
        right("no zero behind 1", 1, referring(40, 32).four(32, 1).two(36, -1).two(38, -1), ROW);
        right("no zero behind 0", 1, referring(40, 32).two(36, -1).two(38, -1), ROW);
    }

    /** 240 bytes have no room for 201 shorts: that 200 are the most is seen by nothing here. */
    private static void longRows() {
        check.sentence("Terms", "ROW: likewise with X + 4 + 2 k at most the size, without that zero;");
        right("108 to the end of 240", 1, referring(240, 20).four(20, 108), ROW);
        wrong("109 past the end of 240", 16, referring(240, 20).four(20, 109), ROW);
        long[] far = {200, 201, 65536, 65537, 100000, 100001, 1L << 24, 0x40000000L, 0x7FFFFFFFL,
            0x80000000L, 0x80000001L, 0xFFFFFFFEL, 0xFFFFFFFFL};
        for (long length : far) {
            wrong("" + length, 16, referring(240, 20).four(20, length), ROW);
        }
    }

    private static void tablesWithin() {
        check.sentence("Terms", "TABLE: a TABLE at X; faults for text and row at A + O.");
        Bytes data = referring(48, 24).table(24, 40, 6, 8, 4).four(28, 4);
        int[] kinds = {TEXT, ROW};
        for (int kind : kinds) {
            FlatStore x = withFields(data.copy(), TABLE);
            x.field(1, kind, 0, true);
            isRight("within, kind " + kind, 2, x);
            x.patch(28, 5);
            isWrong("its own field, not the one that refers to the table", 28, x);
            x.patch(28, 4);
            x.patch(44, 3);
            isWrong("its offset", 44, x);
            x.patch(44, 4);
            x.patch(8, 0);
            isRight("not gone into", 1, x);
        }
        FlatStore y = withFields(data, TABLE + MUST);
        isRight("required", 2, y);
        y.patch(8, 0);
        isWrong("required, but not there", 12, y);
    }

    private static void withoutSign() {
        check.sentence("Terms", "(Numbers at addresses and offsets are without sign; "
            + "one of 4 bytes above 100000 counts as 100000, but for V.)");
        long[] far = {99996, 100000, 100004, 100008, 0x0001000CL, 0x7FFFFFFCL, 0x80000000L, 0x8000000CL,
            0xFFFFFFF8L, 0xFFFFFFFCL, 0xFFFFFFFFL};
        for (long number : far) {
            wrong("R is " + number, 0, plain().four(0, number));
            wrong("a text at " + number, 16, referring(40, 20).four(16, number), TEXT);
            wrong("a row at " + number, 16, referring(40, 20).four(16, number), ROW);
            wrong("a table at " + number, 16, referring(40, 20).four(16, number), TABLE);
            wrong("a text of " + number, 16, referring(40, 20).four(20, number), TEXT);
            wrong("a row of " + number, 16, referring(40, 20).four(20, number), ROW);
        }
        right("V with a sign, the number below 0", 1, plain().table(12, 16, 4, 4));
        right("V with a sign, the number above 0", 1, plain().table(12, 8, 4, 4));
        wrong("S without a sign", 4, plain().two(4, 65532));
        wrong("L without a sign", 6, plain().two(6, 65532));
        wrong("O without a sign", 8, referring(40, 20).two(8, 65532), ROW);
    }

    private static void endOfVerified() {
        check.sentence("Terms", "If nothing is wrong, the data is VERIFIED for the table until a build, "
            + "patch, cut "
            + "or field is called that does not throw, or a verify for a table 0 .. 3,");
        ended("build", x -> x.build(1));
        ended("build of another record", x -> x.build(0));
        ended("patch", x -> x.patch(0, 1));
        ended("patch of the same", x -> x.patch(0, 20));
        ended("cut", x -> x.cut(79));
        ended("cut of nothing", x -> x.cut(80));
        ended("cut of all", x -> x.cut(0));
        ended("field of the table", x -> x.field(0, 0, 0, false));
        ended("field of another table", x -> x.field(3, 0, 0, false));
        FlatStore y = Sample.verified();
        y.field(2, TEXT, 0, true);
        y.verify(0);
        check.refused("verify with a fault", ARGUMENT, () -> y.verify(2));
        check.due("verify with a fault: not verified", 0, () -> y.count(4));
        check.refused("verify with a fault: not verified", STATE, y::top);
    }

    private static void ended(String what, Check.Deed deed) {
        FlatStore x = Sample.verified();
        check.due(what + ": verified before", 1, () -> x.count(4));
        deed.done(x);
        check.due(what + ": not verified", 0, () -> x.count(4));
        check.due(what + ": no table at the cursor", -1, () -> x.count(5));
        check.refused(what + ": not verified", STATE, x::top);
        check.refused(what + ": not verified", STATE, () -> x.value(0));
    }

    private static void notTheEndOfVerified() {
        check.sentence("Terms", "If nothing is wrong, the data is VERIFIED for the table until a build, "
            + "patch, cut "
            + "or field is called that does not throw, or a verify for a table 0 .. 3,");
        stayed("build of no record", x -> x.build(2));
        stayed("build without a required text", x -> {
            x.unset(1, 1);
            return x.build(1);
        });
        stayed("patch of no byte", x -> x.patch(80, 0));
        stayed("cut of more than all", x -> x.cut(81));
        stayed("cut of less than none", x -> x.cut(-1));
        stayed("field of no table", x -> x.field(4, 0, 0, false));
        stayed("field of a full table", x -> x.field(2, 0, 0, false));
        stayed("verify for table 4", x -> x.verify(4));
        stayed("verify for table -1", x -> x.verify(-1));
        stayed("make", x -> x.make(0));
        stayed("number", x -> x.number(1, 0, 3));
        stayed("add", x -> x.add(1));
        stayed("fill", x -> x.fill(1, 1));
        stayed("link", x -> x.link(1, 3, 0));
        stayed("unset", x -> x.unset(1, 1));
        stayed("at", x -> x.at(0));
        stayed("at of no byte", x -> x.at(80));
        stayed("fault", FlatStore::fault);
        stayed("down to a field that is none", x -> x.down(9));
        stayed("value", x -> x.value(0));
        stayed("size", x -> x.size(1));
        stayed("element", x -> x.element(1, 0));
        stayed("element that is none", x -> x.element(1, 2));
        stayed("count", x -> x.count(0));
        stayed("count of another number", x -> x.count(6));
        FlatStore y = Sample.large(0, 3, 7);
        y.build(1);
        y.verify(0);
        Sample.text(y, 0, 1, 12);
        check.refused("build of too much", IndexOutOfBoundsException.class, () -> y.build(1));
        check.due("build of too much: still verified", 1, () -> y.count(4));
        check.due("build of too much: it can be read", 12, () -> y.size(0));
    }

    private static void stayed(String what, Check.Deed deed) {
        FlatStore x = Sample.built();
        for (int i = 0; i < 6; i++) {
            x.field(2, BYTE, 0, false);
        }
        x.verify(0);
        Check.told(() -> deed.done(x));
        check.due(what + ": still verified", 1, () -> x.count(4));
        check.due(what + ": the cursor stays", 0, () -> x.count(5));
        check.due(what + ": it can be read", 5, () -> x.value(0));
    }

    private static void verifiedAnew() {
        check.sentence("Terms", "If nothing is wrong, the data is VERIFIED for the table until a build, "
            + "patch, cut "
            + "or field is called that does not throw, or a verify for a table 0 .. 3,");
        FlatStore x = Sample.built();
        x.field(2, BYTE, 3, false);
        for (int table : new int[] {0, 2, 3, 0, 0}) {
            check.due("verify(" + table + ")", table == 0 ? 2 : 1, () -> x.verify(table));
            check.due("verified", 1, () -> x.count(4));
            check.due("for that table", table, () -> x.count(5));
        }
        x.verify(2);
        check.due("a field of that table", 5, () -> x.value(0));
        check.refused("none of the table before", java.util.NoSuchElementException.class, () -> x.size(1));
    }

    private static void cursorAtTheFirst() {
        check.sentence("Terms", "and the CURSOR is at the first table of it.");
        FlatStore x = Sample.verified();
        check.due("the first", 5, () -> x.value(0));
        x.down(3);
        check.due("the one below", 7, () -> x.value(0));
        check.due("verify again", 2, () -> x.verify(0));
        check.due("the table of the first", 0, () -> x.count(5));
        check.due("the first again", 5, () -> x.value(0));
        x.build(0);
        check.due("verify for another table", 1, () -> x.verify(1));
        check.due("its first", 7, () -> x.value(0));
        check.due("the table of it", 1, () -> x.count(5));
        FlatStore y = withFields(new Bytes(32).four(0, 28).table(28, 4, 6, 4).four(20, 9), 2);
        y.verify(0);
        check.due("where R tells", 0, () -> y.value(0));
        y.patch(0, 16);
        y.patch(16, 12);
        y.patch(6, 8);
        y.patch(8, 4);
        y.verify(0);
        check.due("where R tells now", 9, () -> y.value(0));
    }

    private static void tablesGoneInto() {
        check.sentence("Promise 13", "Verifies the data for a table; answers how many tables were gone into "
            + "(one gone into twice counting twice).");
        isRight("one", 1, manyTables());
        isRight("two", 2, manyTables(84));
        isRight("one twice", 3, manyTables(84, 84));
        isRight("one six times", 7, manyTables(84, 84, 84, 84, 84, 84));
        isRight("one twice with six in it", 15, manyTables(48, 48));
        FlatStore x = new FlatStore();
        x.field(1, TABLE, 0, false);
        x.field(1, TABLE, 0, false);
        x.make(0);
        x.make(1);
        x.link(1, 0, 0);
        x.build(1);
        check.due("built with one link", 2, () -> x.verify(1));
        x.link(1, 1, 0);
        x.build(1);
        check.due("built with two links to one record", 3, () -> x.verify(1));
        check.due("for a table without fields", 1, () -> x.verify(3));
        check.due("again", 3, () -> x.verify(1));
        FlatStore y = Sample.built();
        check.due("the sample", 2, () -> y.verify(0));
        y.field(3, BYTE, 1, false);
        y.field(3, ROW, 1, true);
        check.due("the text as a row", 1, () -> y.verify(3));
        check.due("of 2", 2, () -> y.size(1));
        check.due("shorts", 'H' + 256 * 'i', () -> y.element(1, 0));
    }

    private static void noTable() {
        check.sentence("Promise 13", "IllegalArgumentException: table not 0 .. 3, "
            + "or a fault (the data is not verified then).");
        FlatStore x = Sample.verified();
        for (int table : new int[] {-1, 4, Integer.MIN_VALUE, Integer.MAX_VALUE}) {
            check.refused("verify(" + table + ")", ARGUMENT, () -> x.verify(table));
            check.due("still verified", 1, () -> x.count(4));
            check.due("no fault", -1, x::fault);
        }
        check.due("verify(3)", 1, () -> x.verify(3));
        check.due("verify(0)", 2, () -> x.verify(0));
        check.refused("a fault", ARGUMENT, () -> x.verify(1));
        check.due("a fault: not verified", 0, () -> x.count(4));
        check.refused("verify(4) behind it", ARGUMENT, () -> x.verify(4));
        check.due("still not verified", 0, () -> x.count(4));
        check.due("nothing else is changed", 2, () -> x.verify(0));
        check.bytes("the bytes", x, Sample.builtBytes());
    }

    private static void faultOfVerify() {
        check.sentence("Promise 14", "The address of the fault of the last verify that had one for a table "
            + "0 .. 3;");
        FlatStore x = Sample.built();
        x.patch(8, 3);
        check.refused("verify", ARGUMENT, () -> x.verify(0));
        check.due("fault", 8, x::fault);
        check.due("fault stays", 8, x::fault);
        for (int table : new int[] {-1, 4, Integer.MIN_VALUE, Integer.MAX_VALUE}) {
            check.refused("verify(" + table + ")", ARGUMENT, () -> x.verify(table));
            check.due("a verify for no table leaves it", 8, x::fault);
        }
        x.patch(8, 30);
        check.due("a patch leaves it", 8, x::fault);
        x.cut(79);
        check.due("a cut leaves it", 8, x::fault);
        x.build(1);
        check.due("a build leaves it", 8, x::fault);
        x.field(2, BYTE, 0, false);
        check.due("a field leaves it", 8, x::fault);
        x.make(0);
        check.due("a make leaves it", 8, x::fault);
        check.refused("top", STATE, x::top);
        check.due("a call that throws leaves it", 8, x::fault);
    }

    private static void faultOfTheLast() {
        check.sentence("Promise 14", "The address of the fault of the last verify that had one for a table "
            + "0 .. 3;");
        FlatStore x = Sample.built();
        x.field(2, TEXT, 0, true);
        check.refused("verify for table 2", ARGUMENT, () -> x.verify(2));
        check.due("its fault", 10, x::fault);
        x.patch(20, 15);
        check.refused("verify for table 0", ARGUMENT, () -> x.verify(0));
        check.due("the later fault", 20, x::fault);
        x.cut(3);
        check.refused("verify for table 3", ARGUMENT, () -> x.verify(3));
        check.due("a fault at 0", 0, x::fault);
    }

    private static void noFault() {
        check.sentence("Promise 14", "-1 if the last one for such a table had none, or there was none.");
        FlatStore x = Sample.built();
        check.due("there was none", -1, x::fault);
        check.refused("verify(4)", ARGUMENT, () -> x.verify(4));
        check.due("there was none for a table", -1, x::fault);
        check.due("verify", 2, () -> x.verify(0));
        check.due("it had none", -1, x::fault);
        x.cut(79);
        x.patch(78, 1);
        check.due("none though the data is wrong now", -1, x::fault);
        check.refused("verify", ARGUMENT, () -> x.verify(0));
        check.due("fault", 44, x::fault);
        check.due("verify for a table without fields", 1, () -> x.verify(3));
        check.due("that one had none", -1, x::fault);
        check.refused("verify(-1)", ARGUMENT, () -> x.verify(-1));
        check.due("none still", -1, x::fault);
    }
}
