import java.util.NoSuchElementException;
import java.util.function.IntFunction;

/** Promises 15 (top), 16 (down), 17 (value), 18 (size) and 19 (element). */
public final class CursorTest {
    private static final Class<IllegalStateException> STATE = IllegalStateException.class;
    private static final Class<NoSuchElementException> NO_SUCH = NoSuchElementException.class;
    private static final Class<UnsupportedOperationException> UNSUPPORTED =
        UnsupportedOperationException.class;
    private static final Class<IndexOutOfBoundsException> BOUNDS = IndexOutOfBoundsException.class;
    private static final int[] NO_FIELDS = {-1, 5, 6, 7, Integer.MIN_VALUE, Integer.MAX_VALUE};
    private static final int[] NUMBERS = {0, 4};
    private static final int[] ITEMS = {1, 2};
    private static final int[] TABLES = {3};
    private static final Check check = new Check("CursorTest");

    public static void main(String[] args) {
        Runnable[] tests = {
            CursorTest::top, CursorTest::topOfNothing, CursorTest::down, CursorTest::downToNothing,
            CursorTest::downNotVerified, CursorTest::downNoSuch, CursorTest::downOfAnotherKind,
            CursorTest::value, CursorTest::defaults, CursorTest::edgesOfNumbers,
            CursorTest::neighbours, CursorTest::valueThrown, CursorTest::size,
            CursorTest::sizeOfNothing, CursorTest::sizeThrown, CursorTest::element,
            CursorTest::charactersWithoutSign, CursorTest::elementThrown,
            CursorTest::elementThatIsNone};
        check.all(tests);
        check.end();
    }

    /** Every way to data that is not verified. */
    private static void notVerified(String what, Check.Deed deed) {
        FlatStore x = new FlatStore();
        check.refused(what + " of a new object", STATE, () -> deed.done(x));
        FlatStore y = Sample.built();
        check.refused(what + " of what was built", STATE, () -> deed.done(y));
        y.verify(0);
        y.patch(0, 20);
        check.refused(what + " of what was patched", STATE, () -> deed.done(y));
        y.verify(0);
        y.cut(80);
        check.refused(what + " of what was cut", STATE, () -> deed.done(y));
        y.verify(0);
        y.build(1);
        check.refused(what + " of what was built again", STATE, () -> deed.done(y));
        y.verify(0);
        y.field(3, 0, 0, false);
        check.refused(what + " behind a new field", STATE, () -> deed.done(y));
        y.verify(0);
        check.refused("a short is not there", IllegalArgumentException.class, () -> y.verify(1));
        check.refused(what + " behind a fault", STATE, () -> deed.done(y));
    }

    /** Each field of the sample that is none, or of another kind than these. */
    private static void otherFields(String what, int[] good, IntFunction<Check.Deed> call) {
        FlatStore x = Sample.verified();
        for (int field : NO_FIELDS) {
            check.refused(what + " of field " + field, NO_SUCH, () -> call.apply(field).done(x));
        }
        for (int field = 0; field < 5; field++) {
            int f = field;
            if (java.util.Arrays.stream(good).noneMatch(g -> g == f)) {
                check.refused(what + " of field " + f, UNSUPPORTED, () -> call.apply(f).done(x));
            }
        }
        check.due(what + ": the cursor stayed", 0, () -> x.count(5));
        x.down(3);
        check.refused(what + " of field 1 below", NO_SUCH, () -> call.apply(1).done(x));
        check.due(what + ": the cursor stayed below", 1, () -> x.count(5));
        check.due(what + ": the cursor stayed below", 7, () -> x.value(0));
    }

    /** Six tables within one another, each with a number of its own, verified. */
    private static FlatStore chain() {
        FlatStore x = new FlatStore();
        x.field(0, 6, 0, false);
        x.field(0, 2, 0, false);
        for (int record = 0; record < 6; record++) {
            x.make(0);
            x.number(record, 1, 100 + record);
            if (record > 0) {
                x.link(record, 0, record - 1);
            }
        }
        x.build(5);
        x.verify(0);
        return x;
    }

    private static void top() {
        check.sentence("Promise 15", "The cursor goes to the first table: 1.");
        FlatStore x = Sample.verified();
        check.due("there already", 1, x::top);
        check.due("its byte", 5, () -> x.value(0));
        x.down(3);
        check.due("from below", 1, x::top);
        check.due("its table", 0, () -> x.count(5));
        check.due("its byte", 5, () -> x.value(0));
        FlatStore y = chain();
        for (int i = 0; i < 5; i++) {
            y.down(0);
        }
        check.due("the lowest one", 100, () -> y.value(1));
        check.due("from there", 1, y::top);
        check.due("the first one", 105, () -> y.value(1));
    }

    private static void topOfNothing() {
        check.sentence("Promise 15", "IllegalStateException: the data is not verified.");
        notVerified("top", FlatStore::top);
    }

    private static void down() {
        check.sentence("Promise 16", "The cursor goes to the table that a field of kind 6 at the cursor "
            + "has: 1; "
            + "if it has none, it stays: 0.");
        FlatStore x = Sample.verified();
        check.due("down", 1, () -> x.down(3));
        check.due("its table", 1, () -> x.count(5));
        check.due("its short", 7, () -> x.value(0));
        FlatStore y = chain();
        for (int below = 104; below >= 100; below--) {
            check.due("to " + below, 1, () -> y.down(0));
            check.due("there is " + below, below, () -> y.value(1));
        }
        check.due("there is none below", 0, () -> y.down(0));
        check.due("it stays", 100, () -> y.value(1));
    }

    private static void downToNothing() {
        check.sentence("Promise 16", "The cursor goes to the table that a field of kind 6 at the cursor "
            + "has: 1; "
            + "if it has none, it stays: 0.");
        FlatStore x = Sample.built();
        x.unset(1, 3);
        x.build(1);
        x.verify(0);
        check.due("nothing there", 0, () -> x.down(3));
        check.due("it stays", 0, () -> x.count(5));
        check.due("it stays", 5, () -> x.value(0));
        check.due("a field that the data does not know", 5, () -> x.field(0, 6, 1, false));
        x.verify(0);
        check.due("nothing there", 0, () -> x.down(5));
        check.due("it stays", 5, () -> x.value(0));
    }

    private static void downNotVerified() {
        check.sentence("Promise 16", "IllegalStateException: not verified.");
        notVerified("down", x -> x.down(3));
        notVerified("down of no field", x -> x.down(-1));
        notVerified("down of another kind", x -> x.down(0));
    }

    private static void downNoSuch() {
        check.sentence("Promise 16", "NoSuchElementException: the cursor's table has no such field.");
        otherFields("down", TABLES, field -> x -> x.down(field));
        FlatStore y = new FlatStore();
        y.make(2);
        y.build(0);
        y.verify(2);
        check.refused("of a table without fields", NO_SUCH, () -> y.down(0));
        FlatStore z = chain();
        z.field(0, 6, 0, false);
        z.verify(0);
        check.due("the last field that there is", 0, () -> z.down(2));
        check.refused("the next one", NO_SUCH, () -> z.down(3));
    }

    private static void downOfAnotherKind() {
        check.sentence("Promise 16", "UnsupportedOperationException: another kind.");
        FlatStore x = new FlatStore();
        for (int kind = 0; kind < 6; kind++) {
            x.field(0, kind, 0, false);
        }
        x.make(0);
        x.build(0);
        x.verify(0);
        for (int field = 0; field < 6; field++) {
            int f = field;
            check.refused("kind " + f, UNSUPPORTED, () -> x.down(f));
        }
        check.due("the cursor stayed", 0, () -> x.count(5));
    }

    private static void value() {
        check.sentence("Promise 17", "The number that a field at the cursor has, or its default.");
        FlatStore x = Sample.verified();
        check.due("a byte", 5, () -> x.value(0));
        check.due("a long", 9, () -> x.value(4));
        x.down(3);
        check.due("a short below", 7, () -> x.value(0));
    }

    private static void defaults() {
        check.sentence("Promise 17", "The number that a field at the cursor has, or its default.");
        FlatStore x = new FlatStore();
        int[] defaults = {-128, 32767, 1 << 30, Integer.MIN_VALUE};
        for (int kind = 0; kind < 4; kind++) {
            x.field(2, kind, defaults[kind], false);
        }
        x.make(2);
        x.build(0);
        x.verify(2);
        for (int kind = 0; kind < 4; kind++) {
            int f = kind;
            check.due("nothing in " + kind, defaults[kind], () -> x.value(f));
            x.number(0, kind, defaults[kind]);
        }
        x.number(0, 2, 0);
        x.build(0);
        x.verify(2);
        check.due("0 that is not the default", 0, () -> x.value(2));
        check.due("the default is not put, but told", -128, () -> x.value(0));
        check.due("the default behind the last one", Integer.MIN_VALUE, () -> x.value(3));
        x.field(2, 1, -9, false);
        x.verify(2);
        check.due("the default of a field that came later", -9, () -> x.value(4));
    }

    private static void edgesOfNumbers() {
        check.sentence("Promise 17", "The number that a field at the cursor has, or its default.");
        FlatStore x = new FlatStore();
        for (int kind = 0; kind < 4; kind++) {
            x.field(0, kind, 1, false);
        }
        x.make(0);
        long[] numbers = {Long.MIN_VALUE, Long.MAX_VALUE, -1, 0, 0x80, 0x8000, 0x80000000L, 0x7F, 0x7FFF,
            0x7FFFFFFF, 0x1234567890ABCDEFL};
        for (long number : numbers) {
            for (int kind = 0; kind < 4; kind++) {
                x.number(0, kind, number);
            }
            x.build(0);
            x.verify(0);
            check.due("byte of " + number, (byte) number, () -> x.value(0));
            check.due("short of " + number, (short) number, () -> x.value(1));
            check.due("int of " + number, (int) number, () -> x.value(2));
            check.due("long of " + number, number, () -> x.value(3));
        }
    }

    /** What lies before a number and behind it is no part of it. */
    private static void neighbours() {
        check.sentence("Promise 17", "The number that a field at the cursor has, or its default.");
        for (int kind = 0; kind < 4; kind++) {
            FlatStore x = new FlatStore();
            for (int field = 0; field < 3; field++) {
                x.field(0, kind, 1, false);
            }
            x.make(0);
            for (int middle = 0; middle > -2; middle--) {
                int[] numbers = {-1 - middle, middle, -1 - middle};
                for (int field = 0; field < 3; field++) {
                    x.number(0, field, numbers[field]);
                }
                x.build(0);
                x.verify(0);
                for (int field = 0; field < 3; field++) {
                    int f = field;
                    check.due("kind " + kind + ", field " + f, numbers[f], () -> x.value(f));
                }
            }
        }
    }

    private static void valueThrown() {
        check.sentence("Promise 17", "Thrown as by down.");
        notVerified("value", x -> x.value(0));
        notVerified("value of no field", x -> x.value(-1));
        notVerified("value of another kind", x -> x.value(1));
        otherFields("value", NUMBERS, field -> x -> x.value(field));
    }

    private static void size() {
        check.sentence("Promise 18", "How many characters or shorts a field of kind 4 or 5 at the cursor "
            + "has, "
            + "-1 if it has nothing.");
        FlatStore x = new FlatStore();
        x.field(0, 4, 0, false);
        x.field(0, 5, 0, false);
        x.make(0);
        for (int length = 0; length < 13; length++) {
            int want = length;
            Sample.text(x, 0, 0, length);
            if (length < 9) {
                Sample.text(x, 0, 1, length);
            }
            x.build(0);
            x.verify(0);
            check.due("a text of " + length, want, () -> x.size(0));
            check.due("a row of " + length, Math.min(want, 8), () -> x.size(1));
        }
    }

    private static void sizeOfNothing() {
        check.sentence("Promise 18", "How many characters or shorts a field of kind 4 or 5 at the cursor "
            + "has, "
            + "-1 if it has nothing.");
        FlatStore x = Sample.built();
        x.unset(1, 2);
        x.build(1);
        x.verify(0);
        check.due("nothing", -1, () -> x.size(2));
        x.field(0, 4, 0, false);
        x.verify(0);
        check.due("a field that the data does not know", -1, () -> x.size(5));
        x.fill(1, 2);
        x.fill(1, 5);
        x.build(1);
        x.verify(0);
        check.due("an empty row", 0, () -> x.size(2));
        check.due("an empty text", 0, () -> x.size(5));
    }

    private static void sizeThrown() {
        check.sentence("Promise 18", "Thrown as by down.");
        notVerified("size", x -> x.size(1));
        notVerified("size of no field", x -> x.size(-1));
        notVerified("size of another kind", x -> x.size(0));
        otherFields("size", ITEMS, field -> x -> x.size(field));
    }

    private static void element() {
        check.sentence("Promise 19", "Of these the one at the index (from 0); a character without sign.");
        FlatStore x = new FlatStore();
        x.field(0, 4, 0, false);
        x.field(0, 5, 0, false);
        x.make(0);
        Sample.text(x, 0, 0, 12);
        int[] shorts = {0, 1, -1, 255, 256, -256, 32767, -32768};
        Sample.addAll(x, shorts);
        x.fill(0, 1);
        x.build(0);
        x.verify(0);
        for (int i = 0; i < 12; i++) {
            int index = i;
            check.due("character " + i, 'a' + i, () -> x.element(0, index));
        }
        for (int i = 0; i < 8; i++) {
            int index = i;
            check.due("short " + i, shorts[i], () -> x.element(1, index));
        }
        check.due("reading leaves the data verified", 1, () -> x.count(4));
    }

    private static void charactersWithoutSign() {
        check.sentence("Promise 19", "Of these the one at the index (from 0); a character without sign.");
        FlatStore x = Sample.verified();
        check.due("as it was filled", 'H', () -> x.element(1, 0));
        for (int character : new int[] {0, 127, 128, 200, 255}) {
            x.patch(76, character);
            x.patch(77, 255 - character);
            x.verify(0);
            check.due("the first", character, () -> x.element(1, 0));
            check.due("the last", 255 - character, () -> x.element(1, 1));
        }
    }

    private static void elementThrown() {
        check.sentence("Promise 19", "Thrown as by down; then IndexOutOfBoundsException: there is none.");
        notVerified("element", x -> x.element(1, 0));
        notVerified("element of no field", x -> x.element(-1, -1));
        notVerified("element of another kind", x -> x.element(0, -1));
        notVerified("element that is none", x -> x.element(1, 2));
        otherFields("element 0", ITEMS, field -> x -> x.element(field, 0));
        otherFields("element -1", ITEMS, field -> x -> x.element(field, -1));
    }

    private static void elementThatIsNone() {
        check.sentence("Promise 19", "Thrown as by down; then IndexOutOfBoundsException: there is none.");
        FlatStore x = Sample.verified();
        for (int field : ITEMS) {
            check.due("the last of field " + field, field == 1 ? 'i' : -1, () -> x.element(field, 1));
            for (int index : new int[] {2, 3, -1, -2, Integer.MIN_VALUE, Integer.MAX_VALUE, 1 << 30}) {
                check.refused("field " + field + ", index " + index, BOUNDS, () -> x.element(field, index));
            }
        }
        x.fill(1, 1);
        x.fill(1, 2);
        x.build(1);
        x.verify(0);
        check.refused("of an empty text", BOUNDS, () -> x.element(1, 0));
        check.refused("of an empty row", BOUNDS, () -> x.element(2, 0));
        check.refused("before an empty row", BOUNDS, () -> x.element(2, -1));
        x.unset(1, 2);
        x.field(0, 4, 0, false);
        x.build(1);
        x.verify(0);
        for (int field : new int[] {2, 5}) {
            check.refused("of nothing", BOUNDS, () -> x.element(field, 0));
            check.refused("of nothing", BOUNDS, () -> x.element(field, -1));
            check.refused("of nothing", BOUNDS, () -> x.element(field, -2));
        }
    }
}
