import java.util.NoSuchElementException;

/** Promises 3 (make), 4 (number), 5 (add), 6 (fill), 7 (link) and 8 (unset). */
public final class RecordsTest {
    private static final Class<NoSuchElementException> NO_SUCH = NoSuchElementException.class;
    private static final Class<UnsupportedOperationException> UNSUPPORTED =
        UnsupportedOperationException.class;
    private static final Check check = new Check("RecordsTest");

    public static void main(String[] args) {
        make();
        number();
        numbersApart();
        add();
        fill();
        fillAgain();
        link();
        unset();
        stillVerified();
        check.end();
    }

    private static void make() {
        FlatStore x = new FlatStore();
        check.refused("make(-1)", IllegalArgumentException.class, () -> x.make(-1));
        check.refused("make(4)", IllegalArgumentException.class, () -> x.make(4));
        for (int i = 0; i < 16; i++) {
            int table = i % 4;
            check.due("make " + i, i, () -> x.make(table));
        }
        check.refused("17th", IllegalStateException.class, () -> x.make(0));
        check.refused("17th of no table", IllegalArgumentException.class, () -> x.make(4));
        check.due("records", 16, () -> x.count(1));
    }

    /** A field of each kind in table 1, and records 0 of table 0 and 1 of table 1. */
    private static FlatStore withKinds(int... kinds) {
        FlatStore x = new FlatStore();
        for (int kind : kinds) {
            x.field(1, kind, 0, false);
        }
        x.make(0);
        x.make(1);
        return x;
    }

    private static void number() {
        FlatStore x = withKinds(0, 1, 2, 3);
        long[] asked = {0, 127, 128, 255, 256, -129, 32767, 32768, 65536, 2147483648L, -2147483649L,
            Long.MAX_VALUE, Long.MIN_VALUE, 4294967296L, -1};
        for (long value : asked) {
            check.due("byte " + value, (byte) value, () -> x.number(1, 0, value));
            check.due("short " + value, (short) value, () -> x.number(1, 1, value));
            check.due("int " + value, (int) value, () -> x.number(1, 2, value));
            check.due("long " + value, value, () -> x.number(1, 3, value));
        }
        check.refused("no field of table 0", NO_SUCH, () -> x.number(0, 0, 1));
        check.refused("field -1", NO_SUCH, () -> x.number(1, -1, 1));
        check.refused("field 4", NO_SUCH, () -> x.number(1, 4, 1));
        check.refused("record -1", NO_SUCH, () -> x.number(-1, 0, 1));
        check.refused("record 2", NO_SUCH, () -> x.number(2, 0, 1));
        check.refused("record 16", NO_SUCH, () -> x.number(16, 0, 1));
        check.refused("record least", NO_SUCH, () -> x.number(Integer.MIN_VALUE, 0, 1));
        check.refused("record most", NO_SUCH, () -> x.number(Integer.MAX_VALUE, Integer.MAX_VALUE, 1));
        FlatStore y = withKinds(4, 5, 6);
        for (int field = 0; field < 3; field++) {
            int f = field;
            check.refused("kind " + (4 + field), UNSUPPORTED, () -> y.number(1, f, 1));
            check.due("it has nothing still", 0, () -> y.unset(1, f));
        }
    }

    private static void numbersApart() {
        FlatStore x = withKinds(3, 3);
        x.make(1);
        x.number(1, 0, 10);
        x.number(1, 1, 11);
        x.number(2, 0, 20);
        x.number(1, 0, 12);
        x.build(1);
        x.verify(1);
        check.due("the later number", 12, () -> x.value(0));
        check.due("the other field", 11, () -> x.value(1));
        x.build(2);
        x.verify(1);
        check.due("the other record", 20, () -> x.value(0));
        check.due("nothing there", 0, () -> x.value(1));
    }

    private static void add() {
        FlatStore x = withKinds(4, 5);
        for (int i = 1; i <= 12; i++) {
            int held = i;
            check.due("add " + i, i, () -> x.add(held));
        }
        check.refused("13th", IllegalStateException.class, () -> x.add(13));
        check.due("held", 12, () -> x.count(3));
        check.due("fill", 12, () -> x.fill(1, 0));
        check.due("add to the empty one", 1, () -> x.add(32768));
        check.due("add", 2, () -> x.add(Integer.MIN_VALUE + 32767));
        check.due("add", 3, () -> x.add(-1));
        check.due("fill a row", 3, () -> x.fill(1, 1));
        x.build(1);
        x.verify(1);
        for (int i = 0; i < 12; i++) {
            int index = i;
            check.due("character " + i, i + 1, () -> x.element(0, index));
        }
        check.due("short 0", -32768, () -> x.element(1, 0));
        check.due("short 1", 32767, () -> x.element(1, 1));
        check.due("short 2", -1, () -> x.element(1, 2));
    }

    private static void fill() {
        FlatStore x = withKinds(4, 5, 0, 6);
        Sample.addAll(x, 128, 127, -1, 32767, 200, 0, 1, 2, 3);
        check.refused("9 for a row", UNSUPPORTED, () -> x.fill(1, 1));
        check.refused("for a number", UNSUPPORTED, () -> x.fill(1, 2));
        check.refused("for a link", UNSUPPORTED, () -> x.fill(1, 3));
        check.refused("field 4", NO_SUCH, () -> x.fill(1, 4));
        check.refused("field -1", NO_SUCH, () -> x.fill(1, -1));
        check.refused("record 2", NO_SUCH, () -> x.fill(2, 1));
        check.refused("record -1", NO_SUCH, () -> x.fill(-1, 1));
        check.refused("record of table 0", NO_SUCH, () -> x.fill(0, 0));
        check.due("nothing went", 9, () -> x.count(3));
        check.due("nothing came", 0, () -> x.unset(1, 1));
        check.due("for a text", 9, () -> x.fill(1, 0));
        check.due("empty", 0, () -> x.count(3));
        Sample.addAll(x, 1, 2, 3, 4, 5, 6, 7, 8);
        check.due("8 for a row", 8, () -> x.fill(1, 1));
        x.build(1);
        x.verify(1);
        int[] characters = {0, 127, 127, 127, 72, 0, 1, 2, 3};
        check.due("size of the text", characters.length, () -> x.size(0));
        for (int i = 0; i < characters.length; i++) {
            int index = i;
            check.due("character " + i, characters[i], () -> x.element(0, index));
        }
        check.due("size of the row", 8, () -> x.size(1));
        for (int i = 0; i < 8; i++) {
            int index = i;
            check.due("short " + i, i + 1, () -> x.element(1, index));
        }
    }

    private static void fillAgain() {
        FlatStore x = withKinds(4, 5);
        Sample.text(x, 1, 0, 5);
        check.due("an empty text in its place", 0, () -> x.fill(1, 0));
        check.due("an empty row", 0, () -> x.fill(1, 1));
        x.build(1);
        x.verify(1);
        check.due("size of an empty text", 0, () -> x.size(0));
        check.due("size of an empty row", 0, () -> x.size(1));
        check.due("an empty text is something", 1, () -> x.unset(1, 0));
        check.due("an empty row is something", 1, () -> x.unset(1, 1));
    }

    private static void link() {
        FlatStore x = new FlatStore();
        x.field(0, 6, 1, false);
        x.field(0, 6, 0, false);
        x.field(0, 4, 0, false);
        for (int i = 0; i < 4; i++) {
            x.make(i % 2);
        }
        check.due("to a lower one", 1, () -> x.link(2, 0, 1));
        check.due("to a lower one of its own table", 1, () -> x.link(2, 1, 0));
        check.refused("to a higher one", UNSUPPORTED, () -> x.link(2, 0, 3));
        check.refused("to itself", UNSUPPORTED, () -> x.link(2, 1, 2));
        check.refused("to another table", UNSUPPORTED, () -> x.link(2, 0, 0));
        check.refused("another kind", UNSUPPORTED, () -> x.link(2, 2, 1));
        check.refused("no such other, another kind", NO_SUCH, () -> x.link(2, 2, 4));
        check.refused("no such other", NO_SUCH, () -> x.link(2, 0, 4));
        check.refused("other -1", NO_SUCH, () -> x.link(2, 0, -1));
        check.refused("field 3", NO_SUCH, () -> x.link(2, 3, 1));
        check.refused("field -1", NO_SUCH, () -> x.link(2, -1, 1));
        check.refused("record 4", NO_SUCH, () -> x.link(4, 0, 1));
        check.refused("record -1", NO_SUCH, () -> x.link(-1, 0, 1));
        check.refused("record of table 1", NO_SUCH, () -> x.link(3, 0, 1));
        check.due("a refused link changes nothing", 0, () -> x.unset(2, 2));
        check.due("the link is there", 1, () -> x.unset(2, 0));
        check.due("and the other", 1, () -> x.unset(2, 1));
    }

    private static void unset() {
        FlatStore x = withKinds(0, 4, 5, 6, 3);
        FlatStore y = Sample.built();
        check.refused("record 2", NO_SUCH, () -> x.unset(2, 0));
        check.refused("record -1", NO_SUCH, () -> x.unset(-1, 0));
        check.refused("field 5", NO_SUCH, () -> x.unset(1, 5));
        check.refused("field -1", NO_SUCH, () -> x.unset(1, -1));
        check.refused("record of table 0", NO_SUCH, () -> x.unset(0, 0));
        for (int field = 0; field < 5; field++) {
            int f = field;
            check.due("nothing in " + f, 0, () -> x.unset(1, f));
            check.due("something in " + f, 1, () -> y.unset(1, f));
            check.due("nothing again in " + f, 0, () -> y.unset(1, f));
        }
        x.number(1, 0, 0);
        check.due("a number that is the default is something", 1, () -> x.unset(1, 0));
        check.due("build without the number", 12, () -> {
            FlatStore z = new FlatStore();
            z.field(0, 2, 0, false);
            z.make(0);
            z.number(0, 0, 6);
            z.build(0);
            z.unset(0, 0);
            return z.build(0);
        });
    }

    private static void stillVerified() {
        FlatStore x = Sample.verified();
        x.make(0);
        x.number(1, 0, 6);
        x.add(3);
        x.fill(1, 1);
        x.link(1, 3, 0);
        x.unset(1, 4);
        check.due("records may change under verified data", 1, () -> x.count(4));
        check.due("the data is as it was", 5, () -> x.value(0));
        check.due("the text too", 2, () -> x.size(1));
    }
}
