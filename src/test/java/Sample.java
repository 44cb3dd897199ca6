/** Objects in states that several tests start from. */
final class Sample {
    private Sample() {
    }

    static void addAll(FlatStore store, int... numbers) {
        for (int number : numbers) {
            store.add(number);
        }
    }

    static void text(FlatStore store, int record, int field, int length) {
        for (int i = 0; i < length; i++) {
            store.add('a' + i);
        }
        store.fill(record, field);
    }

    /**
     * 80 bytes for table 0: the first table at 20 with its offsets at 6, a long at 24, references
     * to the other table (36, to 56 with its offsets at 50), to a row (40, to 64) and to a text
     * (44, to 72), and a byte at 49.
     */
    static FlatStore built() {
        FlatStore store = new FlatStore();
        store.field(0, 0, 0, false);
        store.field(0, 4, 0, true);
        store.field(0, 5, 0, false);
        store.field(0, 6, 1, false);
        store.field(0, 3, 0, false);
        store.field(1, 1, 0, false);
        store.make(1);
        store.make(0);
        store.number(0, 0, 7);
        store.number(1, 0, 5);
        addAll(store, 'H', 'i');
        store.fill(1, 1);
        addAll(store, 1, -1);
        store.fill(1, 2);
        store.link(1, 3, 0);
        store.number(1, 4, 9);
        store.build(1);
        return store;
    }

    static int[] builtBytes() {
        return new int[] {
            20, 0, 0, 0, 0, 0, 14, 0, 30, 0, 29, 0, 24, 0, 20, 0, 16, 0, 4, 0,
            14, 0, 0, 0, 9, 0, 0, 0, 0, 0, 0, 0, 0, 0, 0, 0, 20, 0, 0, 0,
            24, 0, 0, 0, 28, 0, 0, 0, 0, 5, 6, 0, 8, 0, 6, 0, 6, 0, 0, 0,
            0, 0, 7, 0, 2, 0, 0, 0, 1, 0, 255, 255, 2, 0, 0, 0, 'H', 'i', 0, 0};
    }

    static FlatStore verified() {
        FlatStore store = built();
        store.verify(0);
        return store;
    }

    /** The most bytes that data can have, built for table 3; the other tables have no field. */
    static FlatStore full() {
        FlatStore store = large(3, 3, 7);
        store.build(1);
        return store;
    }

    /**
     * Records 0 and 1 of a table of five texts and a link; all texts at their longest would make
     * 260 bytes, and the first two of record 0 may be shorter.
     */
    static FlatStore large(int table, int first, int second) {
        FlatStore store = new FlatStore();
        for (int i = 0; i < 5; i++) {
            store.field(table, 4, 0, false);
        }
        store.field(table, 6, table, false);
        store.make(table);
        store.make(table);
        text(store, 0, 0, first);
        text(store, 0, 1, second);
        text(store, 0, 2, 12);
        text(store, 0, 3, 12);
        for (int i = 0; i < 5; i++) {
            text(store, 1, i, 12);
        }
        store.link(1, 5, 0);
        return store;
    }
}
