import java.util.NoSuchElementException;

/** Promises 15 (top), 16 (down), 17 (value), 18 (size) and 19 (element). */
public final class CursorTest {
    private static final Class<IllegalStateException> STATE = IllegalStateException.class;
    private static final Class<NoSuchElementException> NO_SUCH = NoSuchElementException.class;
    private static final Class<UnsupportedOperationException> UNSUPPORTED =
        UnsupportedOperationException.class;
    private static final Class<IndexOutOfBoundsException> BOUNDS = IndexOutOfBoundsException.class;
    private static final Check check = new Check("CursorTest");

    public static void main(String[] args) {
        notVerified();
        topAndDown();
        refusedDown();
        value();
        edgesOfNumbers();
        size();
        element();
        check.end();
    }

    private static void notVerified() {
        FlatStore x = Sample.built();
        everyCallRefused("built", x);
        x.verify(0);
        x.patch(0, 20);
        everyCallRefused("patched", x);
        x.verify(0);
        x.cut(80);
        everyCallRefused("cut", x);
        x.verify(0);
        x.build(1);
        everyCallRefused("built again", x);
        x.verify(0);
        x.field(3, 0, 0, false);
        everyCallRefused("grown", x);
        x.patch(0, 0);
        check.refused("verify", IllegalArgumentException.class, () -> x.verify(0));
        everyCallRefused("faulty", x);
    }

    private static void everyCallRefused(String when, FlatStore x) {
        check.refused(when + ": top", STATE, x::top);
        check.refused(when + ": down", STATE, () -> x.down(9));
        check.refused(when + ": value", STATE, () -> x.value(-1));
        check.refused(when + ": size", STATE, () -> x.size(0));
        check.refused(when + ": element", STATE, () -> x.element(9, -1));
    }

    private static void topAndDown() {
        FlatStore x = Sample.verified();
        check.due("down", 1, () -> x.down(3));
        check.due("its table", 1, () -> x.count(5));
        check.due("its short", 7, () -> x.value(0));
        check.refused("it has one field", NO_SUCH, () -> x.value(1));
        check.refused("of another kind", UNSUPPORTED, () -> x.down(0));
        check.due("top", 1, x::top);
        check.due("the first table", 0, () -> x.count(5));
        check.due("its byte", 5, () -> x.value(0));
        check.due("top again", 1, x::top);
        x.unset(1, 3);
        x.build(1);
        x.verify(0);
        check.due("nothing there", 0, () -> x.down(3));
        check.due("it stays", 0, () -> x.count(5));
        check.due("it stays", 5, () -> x.value(0));
    }

    private static void refusedDown() {
        FlatStore x = Sample.verified();
        for (int field : new int[] {-1, 5, 6, Integer.MIN_VALUE, Integer.MAX_VALUE}) {
            check.refused("down(" + field + ")", NO_SUCH, () -> x.down(field));
            check.refused("value(" + field + ")", NO_SUCH, () -> x.value(field));
            check.refused("size(" + field + ")", NO_SUCH, () -> x.size(field));
            check.refused("element(" + field + ")", NO_SUCH, () -> x.element(field, -1));
        }
        boolean[] isNumber = {true, false, false, false, true};
        boolean[] isItems = {false, true, true, false, false};
        for (int field = 0; field < 5; field++) {
            int f = field;
            if (field != 3) {
                check.refused("down(" + field + ")", UNSUPPORTED, () -> x.down(f));
            }
            if (!isNumber[field]) {
                check.refused("value(" + field + ")", UNSUPPORTED, () -> x.value(f));
            }
            if (!isItems[field]) {
                check.refused("size(" + field + ")", UNSUPPORTED, () -> x.size(f));
                check.refused("element(" + field + ")", UNSUPPORTED, () -> x.element(f, -1));
            }
        }
        check.due("the cursor stayed", 0, () -> x.count(5));
    }

    private static void value() {
        FlatStore x = new FlatStore();
        int[] defaults = {-3, 300, 1 << 30, Integer.MIN_VALUE};
        for (int kind = 0; kind < 4; kind++) {
            x.field(2, kind, defaults[kind], false);
        }
        x.make(2);
        x.build(0);
        x.verify(2);
        for (int kind = 0; kind < 4; kind++) {
            int f = kind;
            check.due("default " + kind, defaults[kind], () -> x.value(f));
        }
        for (int kind = 0; kind < 4; kind++) {
            x.number(0, kind, defaults[kind]);
        }
        x.number(0, 2, 0);
        x.build(0);
        x.verify(2);
        check.due("0 that is not the default", 0, () -> x.value(2));
        check.due("default", -3, () -> x.value(0));
        x.field(2, 1, -9, false);
        x.verify(2);
        check.due("the default of a field that came later", -9, () -> x.value(4));
    }

    private static void edgesOfNumbers() {
        FlatStore x = new FlatStore();
        for (int kind = 0; kind < 4; kind++) {
            x.field(0, kind, 0, false);
        }
        x.make(0);
        long[] numbers = {Long.MIN_VALUE, Long.MAX_VALUE, -1, 0x80, 0x8000, 0x80000000L, 0x7F, 0x7FFF,
            0x7FFFFFFF, 0x1234567890ABCDEFL};
        for (long number : numbers) {
            for (int kind = 0; kind < 4; kind++) {
                x.number(0, kind, number);
            }
            x.build(0);
            x.verify(0);
            check.due("byte of " + number, (byte) number, () -> x.value(0));
            check.due("short of " + number, (short) number, () -> x.value(1));
            check.due("int of " + number, (int) number, () -> x.value(2));
            check.due("long of " + number, number, () -> x.value(3));
        }
    }

    private static void size() {
        FlatStore x = Sample.verified();
        check.due("text", 2, () -> x.size(1));
        check.due("row", 2, () -> x.size(2));
        x.unset(1, 2);
        x.build(1);
        x.verify(0);
        check.due("nothing", -1, () -> x.size(2));
        x.fill(1, 2);
        x.fill(1, 1);
        x.build(1);
        x.verify(0);
        check.due("empty row", 0, () -> x.size(2));
        check.due("empty text", 0, () -> x.size(1));
        check.refused("of an empty row", BOUNDS, () -> x.element(2, 0));
        check.refused("of an empty text", BOUNDS, () -> x.element(1, 0));
    }

    private static void element() {
        FlatStore x = Sample.verified();
        check.due("character 0", 'H', () -> x.element(1, 0));
        check.due("character 1", 'i', () -> x.element(1, 1));
        check.refused("character 2", BOUNDS, () -> x.element(1, 2));
        check.refused("character -1", BOUNDS, () -> x.element(1, -1));
        check.refused("character least", BOUNDS, () -> x.element(1, Integer.MIN_VALUE));
        check.due("short 0", 1, () -> x.element(2, 0));
        check.due("short 1", -1, () -> x.element(2, 1));
        check.refused("short 2", BOUNDS, () -> x.element(2, 2));
        check.refused("short most", BOUNDS, () -> x.element(2, Integer.MAX_VALUE));
        x.patch(76, 200);
        x.patch(77, 255);
        x.verify(0);
        check.due("a character without sign", 200, () -> x.element(1, 0));
        check.due("a character without sign", 255, () -> x.element(1, 1));
        x.unset(1, 2);
        x.build(1);
        x.verify(0);
        check.refused("of nothing", BOUNDS, () -> x.element(2, 0));
        check.refused("of nothing", BOUNDS, () -> x.element(2, -1));
    }
}
