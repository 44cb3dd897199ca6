import java.util.NoSuchElementException;

/** The order in which a call is tested, what a call that throws leaves as it was, and the 512th call. */
public final class RefusedTest {
    private static final Class<IllegalArgumentException> ARGUMENT = IllegalArgumentException.class;
    private static final Class<IllegalStateException> STATE = IllegalStateException.class;
    private static final Class<NoSuchElementException> NO_SUCH = NoSuchElementException.class;
    private static final Class<UnsupportedOperationException> UNSUPPORTED =
        UnsupportedOperationException.class;
    private static final Class<IndexOutOfBoundsException> BOUNDS = IndexOutOfBoundsException.class;
    private static final Check check = new Check("RefusedTest");

    public static void main(String[] args) {
        Runnable[] tests = {
            RefusedTest::orderOfSchemaAndRecords, RefusedTest::orderOfBuild,
            RefusedTest::orderOfReading, RefusedTest::schemaUnchanged,
            RefusedTest::recordsUnchanged, RefusedTest::dataUnchanged, RefusedTest::cursorUnchanged,
            RefusedTest::notVerifiedUnchanged, RefusedTest::faultUnchanged, RefusedTest::lastCalls,
            RefusedTest::manyRefusedCalls};
        check.all(tests);
        check.end();
    }

    /** 16 records, a full table and a full buffer; verified, and the cursor below the first table. */
    private static FlatStore crowded() {
        FlatStore x = new FlatStore();
        x.field(0, 0, 1, false);
        x.field(0, 4, 0, true);
        x.field(0, 5, 0, false);
        x.field(0, 6, 1, false);
        x.field(0, 3, 0, false);
        x.field(0, 6, 0, false);
        x.field(1, 1, 0, false);
        for (int i = 0; i < 5; i++) {
            x.field(2, 3, 0, false);
        }
        x.field(2, 6, 2, false);
        x.make(1);
        x.make(0);
        x.make(0);
        for (int record = 3; record < 15; record++) {
            x.make(2);
        }
        x.make(1);
        x.number(0, 0, 7);
        x.number(1, 0, 5);
        Sample.text(x, 1, 1, 3);
        Sample.text(x, 1, 2, 2);
        x.link(1, 3, 0);
        x.link(2, 5, 1);
        x.number(1, 4, 9);
        for (int record = 3; record < 7; record++) {
            for (int field = 0; field < 5; field++) {
                x.number(record, field, -1);
            }
            if (record > 3) {
                x.link(record, 5, record - 1);
            }
        }
        for (int i = 0; i < 12; i++) {
            x.add(100 + i);
        }
        x.build(1);
        x.verify(0);
        x.down(3);
        return x;
    }

    private static String counts(FlatStore x) {
        StringBuilder text = new StringBuilder();
        for (int what = 0; what < 6; what++) {
            int asked = what;
            text.append(Check.told(() -> x.count(asked))).append(' ');
        }
        return text.append("fault ").append(Check.told(x::fault)).toString();
    }

    private static String read(FlatStore x) {
        StringBuilder text = new StringBuilder();
        for (int i = 0; i < 2; i++) {
            text.append(Check.told(() -> x.value(0))).append(' ').append(Check.told(() -> x.size(1)))
                .append(' ').append(Check.told(() -> x.element(2, 1))).append(' ');
            text.append(Check.told(x::top)).append(' ');
        }
        return text.toString();
    }

    private static String bytes(FlatStore x) {
        StringBuilder text = new StringBuilder();
        int size = x.count(0);
        for (int i = 0; i < size; i++) {
            text.append(x.at(i)).append(' ');
        }
        return text.toString();
    }

    /** What the records and the buffer have; the object is used up by that. */
    private static String built(FlatStore x) {
        StringBuilder text = new StringBuilder();
        text.append(Check.told(() -> x.build(1))).append(": ").append(bytes(x));
        text.append(Check.told(() -> x.build(2))).append(' ').append(Check.told(() -> x.fill(2, 1)));
        text.append(' ').append(Check.told(() -> x.build(2))).append(": ").append(bytes(x));
        for (int record : new int[] {0, 15}) {
            for (int field = 0; field < 6; field++) {
                int f = field;
                text.append(Check.told(() -> x.unset(record, f))).append(' ');
            }
        }
        return text.toString();
    }

    private static void unchanged(String what, Class<? extends RuntimeException> thrown, Check.Deed deed) {
        FlatStore x = crowded();
        check.refused(what, thrown, () -> deed.done(x));
        same(what, crowded(), x);
    }

    private static void same(String what, FlatStore as, FlatStore x) {
        check.compare(what + ": counts", counts(as), counts(x));
        check.compare(what + ": cursor", read(as), read(x));
        check.compare(what + ": bytes", bytes(as), bytes(x));
        check.compare(what + ": records", built(as), built(x));
    }

    private static void orderOfSchemaAndRecords() {
        check.sentence("Terms", "What is thrown is told in the order of testing;");
        FlatStore x = crowded();
        check.refused("full, no kind", ARGUMENT, () -> x.field(0, 7, 0, false));
        check.refused("full, default too great", ARGUMENT, () -> x.field(0, 0, 128, false));
        check.refused("full, no table for kind 6", ARGUMENT, () -> x.field(0, 6, 4, false));
        check.refused("full, required number", ARGUMENT, () -> x.field(0, 0, 0, true));
        check.refused("full", STATE, () -> x.field(0, 0, 0, false));
        check.refused("16 records, no table", ARGUMENT, () -> x.make(4));
        check.refused("16 records", STATE, () -> x.make(0));
        check.refused("12 for a row that is none", NO_SUCH, () -> x.fill(1, 6));
        check.refused("12 for a row", UNSUPPORTED, () -> x.fill(1, 2));
        check.refused("no other record, another kind", NO_SUCH, () -> x.link(2, 0, 16));
        check.refused("no other record, no field", NO_SUCH, () -> x.link(2, 6, 16));
        check.refused("another kind, not lower", UNSUPPORTED, () -> x.link(2, 0, 2));
        check.refused("another table, not lower", UNSUPPORTED, () -> x.link(2, 5, 3));
    }

    /** Too large in any case, and one record of them without its required text. */
    private static void orderOfBuild() {
        check.sentence("Terms", "What is thrown is told in the order of testing;");
        FlatStore x = Sample.large(0, 12, 12);
        check.refused("too large", BOUNDS, () -> x.build(1));
        check.refused("no record", NO_SUCH, () -> x.build(2));
        x.field(1, 4, 0, true);
        x.field(1, 6, 0, false);
        x.make(1);
        x.link(2, 1, 1);
        check.refused("too large, without a required text", STATE, () -> x.build(2));
        x.fill(2, 0);
        check.refused("too large, with it", BOUNDS, () -> x.build(2));
        check.due("no data came of it", 0, () -> x.count(0));
    }

    private static void orderOfReading() {
        check.sentence("Terms", "What is thrown is told in the order of testing;");
        FlatStore x = Sample.built();
        check.refused("not verified, no field", STATE, () -> x.down(9));
        check.refused("not verified, another kind", STATE, () -> x.down(0));
        check.refused("not verified, no field", STATE, () -> x.value(9));
        check.refused("not verified, another kind", STATE, () -> x.value(1));
        check.refused("not verified, no field", STATE, () -> x.size(9));
        check.refused("not verified, another kind", STATE, () -> x.size(0));
        check.refused("not verified, no field, no index", STATE, () -> x.element(9, 9));
        check.refused("not verified, another kind, no index", STATE, () -> x.element(0, 9));
        check.refused("not verified, no index", STATE, () -> x.element(1, 9));
        x.verify(0);
        for (int index : new int[] {-1, 9, Integer.MIN_VALUE, Integer.MAX_VALUE}) {
            check.refused("no field, no index", NO_SUCH, () -> x.element(9, index));
            check.refused("another kind, no index", UNSUPPORTED, () -> x.element(0, index));
            check.refused("no index", BOUNDS, () -> x.element(1, index));
        }
    }

    private static void schemaUnchanged() {
        check.sentence("Terms", "a call that throws changes nothing but what is told.");
        unchanged("field of no table", ARGUMENT, x -> x.field(4, 0, 0, false));
        unchanged("field of no kind", ARGUMENT, x -> x.field(3, 7, 0, false));
        unchanged("default out of range", ARGUMENT, x -> x.field(3, 1, 40000, false));
        unchanged("kind 6 of no table", ARGUMENT, x -> x.field(3, 6, 4, false));
        unchanged("required number", ARGUMENT, x -> x.field(3, 0, 0, true));
        unchanged("full table", STATE, x -> x.field(0, 4, 0, true));
        unchanged("make of no table", ARGUMENT, x -> x.make(4));
        unchanged("17th record", STATE, x -> x.make(0));
        unchanged("count of another number", ARGUMENT, x -> x.count(6));
    }

    private static void recordsUnchanged() {
        check.sentence("Terms", "a call that throws changes nothing but what is told.");
        unchanged("number for no record", NO_SUCH, x -> x.number(16, 0, 3));
        unchanged("number for no field", NO_SUCH, x -> x.number(0, 1, 3));
        unchanged("number for a text", UNSUPPORTED, x -> x.number(1, 1, 3));
        unchanged("number for a link", UNSUPPORTED, x -> x.number(1, 3, 0));
        unchanged("13th number", STATE, x -> x.add(3));
        unchanged("fill of no field", NO_SUCH, x -> x.fill(1, 6));
        unchanged("fill of a number", UNSUPPORTED, x -> x.fill(1, 0));
        unchanged("fill of a link", UNSUPPORTED, x -> x.fill(1, 3));
        unchanged("12 for a row", UNSUPPORTED, x -> x.fill(1, 2));
        unchanged("link of no field", NO_SUCH, x -> x.link(1, 6, 0));
        unchanged("link to no record", NO_SUCH, x -> x.link(1, 3, 16));
        unchanged("link of a number", UNSUPPORTED, x -> x.link(1, 0, 0));
        unchanged("link to another table", UNSUPPORTED, x -> x.link(2, 5, 0));
        unchanged("link to a higher one", UNSUPPORTED, x -> x.link(2, 5, 3));
        unchanged("link to itself", UNSUPPORTED, x -> x.link(2, 5, 2));
        unchanged("unset of no field", NO_SUCH, x -> x.unset(1, 6));
        unchanged("unset of no record", NO_SUCH, x -> x.unset(16, 0));
    }

    private static void dataUnchanged() {
        check.sentence("Terms", "a call that throws changes nothing but what is told.");
        unchanged("build of no record", NO_SUCH, x -> x.build(16));
        unchanged("build without what is required", STATE, x -> x.build(2));
        unchanged("build of too much", BOUNDS, x -> x.build(6));
        unchanged("at of no byte", BOUNDS, x -> x.at(x.count(0)));
        unchanged("patch of no byte", BOUNDS, x -> x.patch(x.count(0), 1));
        unchanged("patch before all", BOUNDS, x -> x.patch(-1, 1));
        unchanged("cut of more than all", BOUNDS, x -> x.cut(x.count(0) + 1));
        unchanged("cut of less than none", BOUNDS, x -> x.cut(-1));
        unchanged("verify for table 4", ARGUMENT, x -> x.verify(4));
        unchanged("verify for table -1", ARGUMENT, x -> x.verify(-1));
    }

    private static void cursorUnchanged() {
        check.sentence("Terms", "a call that throws changes nothing but what is told.");
        unchanged("down to no field", NO_SUCH, x -> x.down(1));
        unchanged("down to a number", UNSUPPORTED, x -> x.down(0));
        unchanged("value of no field", NO_SUCH, x -> x.value(1));
        unchanged("size of no field", NO_SUCH, x -> x.size(-1));
        unchanged("size of a number", UNSUPPORTED, x -> x.size(0));
        unchanged("element of no field", NO_SUCH, x -> x.element(1, 0));
        unchanged("element of a number", UNSUPPORTED, x -> x.element(0, 0));
        FlatStore x = crowded();
        FlatStore as = crowded();
        x.top();
        as.top();
        check.refused("element that is none", BOUNDS, () -> x.element(1, 3));
        check.refused("value of a text", UNSUPPORTED, () -> x.value(1));
        same("at the first table", as, x);
    }

    private static void notVerifiedUnchanged() {
        check.sentence("Terms", "a call that throws changes nothing but what is told.");
        FlatStore x = faulty();
        check.refused("top", STATE, x::top);
        check.refused("down", STATE, () -> x.down(3));
        check.refused("value", STATE, () -> x.value(0));
        check.refused("size", STATE, () -> x.size(1));
        check.refused("element", STATE, () -> x.element(1, 0));
        check.refused("verify for table 4", ARGUMENT, () -> x.verify(4));
        same("not verified", faulty(), x);
        FlatStore y = faulty();
        check.refused("top", STATE, y::top);
        check.due("it can be verified still", 2, () -> y.verify(0));
        check.due("the first table", 5, () -> y.value(0));
    }

    /** Crowded, and the last verify was for a table that the data is not of. */
    private static FlatStore faulty() {
        FlatStore x = crowded();
        Check.told(() -> x.verify(1));
        return x;
    }

    /** A verify with a fault throws, and tells that the data is not verified and where the fault is. */
    private static void faultUnchanged() {
        check.sentence("Terms", "a call that throws changes nothing but what is told.");
        FlatStore x = crowded();
        FlatStore as = crowded();
        check.refused("verify with a fault", ARGUMENT, () -> x.verify(1));
        check.due("not verified", 0, () -> x.count(4));
        check.due("a fault", 10, x::fault);
        check.compare("bytes", bytes(as), bytes(x));
        check.compare("records", built(as), built(x));
        check.due("the buffer went with that alone", 0, () -> x.count(3));
    }

    private static void lastCalls() {
        check.sentence("What it is", "An object is used for at most 512 calls after it has been made;");
        FlatStore x = new FlatStore();
        x.field(0, 2, 0, false);
        x.make(0);
        for (int round = 1; round <= 102; round++) {
            int number = round;
            check.due("number in round " + round, number, () -> x.number(0, 0, number));
            check.due("build in round " + round, 20, () -> x.build(0));
            check.due("verify in round " + round, 1, () -> x.verify(0));
            check.due("count in round " + round, 1, () -> x.count(4));
            check.due("value in round " + round, number, () -> x.value(0));
        }
    }

    private static void manyRefusedCalls() {
        check.sentence("What it is", "An object is used for at most 512 calls after it has been made;");
        FlatStore x = new FlatStore();
        for (int call = 1; call < 512; call++) {
            int record = call % 20;
            check.refused("call " + call, NO_SUCH, () -> x.build(record));
        }
        check.due("call 512", 0, () -> x.make(3));
        FlatStore y = Sample.large(0, 12, 12);
        for (int call = 127; call < 512; call++) {
            check.refused("call " + call, BOUNDS, () -> y.build(1));
        }
        check.due("call 512", 2, () -> y.count(1));
    }
}
