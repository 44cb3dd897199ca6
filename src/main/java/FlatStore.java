import java.util.Arrays;
import java.util.NoSuchElementException;

/**
 * Buffers of bytes with tables in them, by a schema that can grow: records are built from the end
 * to the beginning, untrusted bytes are verified, and verified ones are read where they lie.
 */
public final class FlatStore {
    private static final int MOST_TABLES = 4;
    private static final int MOST_FIELDS = 6;
    private static final int MOST_RECORDS = 16;
    private static final int MOST_SLOTS = MOST_RECORDS * MOST_FIELDS;
    private static final int MOST_ITEMS = 12;
    private static final int MOST_SHORTS = 8;
    private static final int MOST_BYTES = 240;
    private static final int MOST_ENTERED = 16;
    private static final int MOST_NESTED = 6;
    private static final int MOST_LENGTH = 200;
    private static final int NUMBER_CAP = 100000;
    private static final int MOST_OFFSETS = MOST_FIELDS + 2;

    private static final int BYTE = 0;
    private static final int SHORT = 1;
    private static final int INT = 2;
    private static final int TEXT = 4;
    private static final int ROW = 5;
    private static final int TABLE = 6;
    private static final int[] WIDTHS = {1, 2, 4, 8, 4, 4, 4};

    private static final int NONE = -1;

    private final Schema schema = new Schema();
    private final Records records = new Records();
    private final Pending pending = new Pending();
    private final Data data = new Data();
    private final Builder builder = new Builder(schema, records);
    private final Verifier verifier = new Verifier(schema, data);
    private final Cursor cursor = new Cursor();
    private int lastFault = NONE;

    public FlatStore() {
    }

    public int field(int table, int kind, int x, boolean required)
            throws IllegalArgumentException, IllegalStateException {
        if (!isTable(table) || kind < BYTE || kind > TABLE || !suits(kind, x)) {
            throw new IllegalArgumentException();
        }
        if (required && kind < TEXT) {
            throw new IllegalArgumentException();
        }
        if (schema.fieldsOf(table) >= MOST_FIELDS) {
            throw new IllegalStateException();
        }
        cursor.leave();
        return schema.append(table, kind, x, required);
    }

    public int make(int table) throws IllegalArgumentException, IllegalStateException {
        if (!isTable(table)) {
            throw new IllegalArgumentException();
        }
        if (records.made >= MOST_RECORDS) {
            throw new IllegalStateException();
        }
        return records.append(table);
    }

    public long number(int record, int field, long value)
            throws NoSuchElementException, UnsupportedOperationException {
        int kind = kindInRecord(record, field);
        if (kind >= TEXT) {
            throw new UnsupportedOperationException();
        }
        long kept = broughtIntoRange(kind, value);
        records.keepNumber(slotOf(record, field), kept);
        return kept;
    }

    public int add(int value) throws IllegalStateException {
        if (pending.held >= MOST_ITEMS) {
            throw new IllegalStateException();
        }
        pending.append((short) value);
        return pending.held;
    }

    public int fill(int record, int field)
            throws NoSuchElementException, UnsupportedOperationException {
        int kind = kindInRecord(record, field);
        if (kind != TEXT && kind != ROW) {
            throw new UnsupportedOperationException();
        }
        if (kind == ROW && pending.held > MOST_SHORTS) {
            throw new UnsupportedOperationException();
        }
        int held = pending.held;
        records.keepItems(slotOf(record, field), pending, kind == TEXT ? 127 : -1);
        pending.held = 0;
        return held;
    }

    public int link(int record, int field, int other)
            throws NoSuchElementException, UnsupportedOperationException {
        int kind = kindInRecord(record, field);
        if (!records.holds(other)) {
            throw new NoSuchElementException();
        }
        if (kind != TABLE || other >= record) {
            throw new UnsupportedOperationException();
        }
        if (records.tableOf(other) != schema.extraOf(records.tableOf(record), field)) {
            throw new UnsupportedOperationException();
        }
        records.keepLink(slotOf(record, field), other);
        return 1;
    }

    public int unset(int record, int field) throws NoSuchElementException {
        kindInRecord(record, field);
        return records.forget(slotOf(record, field)) ? 1 : 0;
    }

    public int build(int record)
            throws NoSuchElementException, IllegalStateException, IndexOutOfBoundsException {
        if (!records.holds(record)) {
            throw new NoSuchElementException();
        }
        if (!builder.isWhole(record)) {
            throw new IllegalStateException();
        }
        if (!builder.assemble(record)) {
            throw new IndexOutOfBoundsException();
        }
        cursor.leave();
        data.takeEnd(builder.bytes, builder.written);
        return data.length;
    }

    public int at(int address) throws IndexOutOfBoundsException {
        if (!data.holds(address)) {
            throw new IndexOutOfBoundsException();
        }
        return data.unsignedByte(address);
    }

    public int patch(int address, int value) throws IndexOutOfBoundsException {
        if (!data.holds(address)) {
            throw new IndexOutOfBoundsException();
        }
        cursor.leave();
        int old = data.unsignedByte(address);
        data.put(address, value);
        return old;
    }

    public int cut(int n) throws IndexOutOfBoundsException {
        if (n < 0 || n > data.length) {
            throw new IndexOutOfBoundsException();
        }
        cursor.leave();
        int gone = data.length - n;
        data.length = n;
        return gone;
    }

    public int verify(int table) throws IllegalArgumentException {
        if (!isTable(table)) {
            throw new IllegalArgumentException();
        }
        cursor.leave();
        lastFault = verifier.inspect(table);
        if (lastFault != NONE) {
            throw new IllegalArgumentException();
        }
        cursor.enter(data.capped(0), table);
        return verifier.entered;
    }

    public int fault() {
        return lastFault;
    }

    public int top() throws IllegalStateException {
        if (!cursor.verified) {
            throw new IllegalStateException();
        }
        cursor.goFirst();
        return 1;
    }

    public int down(int field)
            throws IllegalStateException, NoSuchElementException, UnsupportedOperationException {
        if (kindAtCursor(field) != TABLE) {
            throw new UnsupportedOperationException();
        }
        int place = data.placeOf(cursor.address, field);
        if (place == NONE) {
            return 0;
        }
        cursor.go(data.target(place), schema.extraOf(cursor.table, field));
        return 1;
    }

    public long value(int field)
            throws IllegalStateException, NoSuchElementException, UnsupportedOperationException {
        int kind = kindAtCursor(field);
        if (kind >= TEXT) {
            throw new UnsupportedOperationException();
        }
        int place = data.placeOf(cursor.address, field);
        if (place == NONE) {
            return schema.extraOf(cursor.table, field);
        }
        return data.signed(place, WIDTHS[kind]);
    }

    public int size(int field)
            throws IllegalStateException, NoSuchElementException, UnsupportedOperationException {
        return itemsAtCursor(field);
    }

    public int element(int field, int index)
            throws IllegalStateException, NoSuchElementException, UnsupportedOperationException,
            IndexOutOfBoundsException {
        int length = itemsAtCursor(field);
        if (index < 0 || index >= length) {
            throw new IndexOutOfBoundsException();
        }
        int items = data.target(data.placeOf(cursor.address, field)) + 4;
        if (schema.kindOf(cursor.table, field) == TEXT) {
            return data.unsignedByte(items + index);
        }
        return (int) data.signed(items + 2 * index, 2);
    }

    public int count(int what) throws IllegalArgumentException {
        switch (what) {
            case 0:
                return data.length;
            case 1:
                return records.made;
            case 2:
                return schema.fieldsInAll();
            case 3:
                return pending.held;
            case 4:
                return cursor.verified ? 1 : 0;
            case 5:
                return cursor.verified ? cursor.table : NONE;
            default:
                throw new IllegalArgumentException();
        }
    }

    private static boolean isTable(int table) {
        return table >= 0 && table < MOST_TABLES;
    }

    private static boolean suits(int kind, int x) {
        if (kind == TABLE) {
            return isTable(x);
        }
        return kind >= TEXT || broughtIntoRange(kind, x) == x;
    }

    private static long broughtIntoRange(int kind, long number) {
        switch (kind) {
            case BYTE:
                return (byte) number;
            case SHORT:
                return (short) number;
            case INT:
                return (int) number;
            default:
                return number;
        }
    }

    private static int slotOf(int record, int field) {
        return record * MOST_FIELDS + field;
    }

    private int kindInRecord(int record, int field) {
        if (!records.holds(record) || !schema.holds(records.tableOf(record), field)) {
            throw new NoSuchElementException();
        }
        return schema.kindOf(records.tableOf(record), field);
    }

    private int kindAtCursor(int field) {
        if (!cursor.verified) {
            throw new IllegalStateException();
        }
        if (!schema.holds(cursor.table, field)) {
            throw new NoSuchElementException();
        }
        return schema.kindOf(cursor.table, field);
    }

    private int itemsAtCursor(int field) {
        int kind = kindAtCursor(field);
        if (kind != TEXT && kind != ROW) {
            throw new UnsupportedOperationException();
        }
        int place = data.placeOf(cursor.address, field);
        return place == NONE ? NONE : data.capped(data.target(place));
    }

    /** The fields of the tables; who asks for one has seen that the schema holds it. */
    private static final class Schema {
        private final int[] lengths = new int[MOST_TABLES];
        private final int[] kinds = new int[MOST_TABLES * MOST_FIELDS];
        private final int[] extras = new int[MOST_TABLES * MOST_FIELDS];
        private final boolean[] musts = new boolean[MOST_TABLES * MOST_FIELDS];

        int append(int table, int kind, int extra, boolean must) {
            int added = lengths[table];
            int spot = table * MOST_FIELDS + added;
            kinds[spot] = kind;
            extras[spot] = extra;
            musts[spot] = must;
            lengths[table] = added + 1;
            return added;
        }

        boolean holds(int table, int field) {
            return field >= 0 && field < lengths[table];
        }

        int fieldsOf(int table) {
            return lengths[table];
        }

        int fieldsInAll() {
            int sum = 0;
            for (int table = 0; table < MOST_TABLES; table++) {
                sum += lengths[table];
            }
            return sum;
        }

        int kindOf(int table, int field) {
            return kinds[table * MOST_FIELDS + field];
        }

        /** The default of a number, or the table of a field of kind 6. */
        int extraOf(int table, int field) {
            return extras[table * MOST_FIELDS + field];
        }

        boolean requires(int table, int field) {
            return musts[table * MOST_FIELDS + field];
        }
    }

    /** The numbers that wait to become a text or a row. */
    private static final class Pending {
        private final short[] items = new short[MOST_ITEMS];
        private int held;

        void append(short item) {
            items[held] = item;
            held++;
        }
    }

    /** What the fields of all records have; a slot is one field of one record. */
    private static final class Records {
        private final int[] tables = new int[MOST_RECORDS];
        private final boolean[] filled = new boolean[MOST_SLOTS];
        private final long[] numbers = new long[MOST_SLOTS];
        private final int[] links = new int[MOST_SLOTS];
        private final int[] lengths = new int[MOST_SLOTS];
        private final short[] items = new short[MOST_SLOTS * MOST_ITEMS];
        private int made;

        int append(int table) {
            tables[made] = table;
            made++;
            return made - 1;
        }

        boolean holds(int record) {
            return record >= 0 && record < made;
        }

        int tableOf(int record) {
            return tables[record];
        }

        void keepNumber(int slot, long number) {
            filled[slot] = true;
            numbers[slot] = number;
        }

        void keepLink(int slot, int other) {
            filled[slot] = true;
            links[slot] = other;
        }

        void keepItems(int slot, Pending from, int mask) {
            filled[slot] = true;
            lengths[slot] = from.held;
            for (int i = 0; i < from.held; i++) {
                items[slot * MOST_ITEMS + i] = (short) (from.items[i] & mask);
            }
        }

        boolean forget(int slot) {
            boolean had = filled[slot];
            filled[slot] = false;
            return had;
        }

        short itemOf(int slot, int index) {
            return items[slot * MOST_ITEMS + index];
        }
    }

    /** Puts a record and all that it comes to, from the last byte on. */
    private static final class Builder {
        private final Schema schema;
        private final Records records;
        private final byte[] bytes = new byte[MOST_BYTES];
        private final boolean[] reached = new boolean[MOST_RECORDS];
        private final int[] recordPlaces = new int[MOST_RECORDS];
        private final int[] itemsPlaces = new int[MOST_SLOTS];
        private final int[] fieldPlaces = new int[MOST_FIELDS];
        private final int[] offsets = new int[MOST_RECORDS * MOST_OFFSETS];
        private final int[] offsetsPlaces = new int[MOST_RECORDS];
        private int offsetsKept;
        private int written;
        private int widest;

        Builder(Schema schema, Records records) {
            this.schema = schema;
            this.records = records;
        }

        /** Links lead to lower records alone, so that one way down meets all that is reached. */
        boolean isWhole(int first) {
            for (int record = 0; record < MOST_RECORDS; record++) {
                reached[record] = record == first;
            }
            for (int record = first; record >= 0; record--) {
                if (reached[record] && !hasAllRequired(record)) {
                    return false;
                }
            }
            return true;
        }

        private boolean hasAllRequired(int record) {
            int table = records.tableOf(record);
            for (int field = 0; field < schema.fieldsOf(table); field++) {
                int slot = slotOf(record, field);
                if (!records.filled[slot]) {
                    if (schema.requires(table, field)) {
                        return false;
                    }
                } else if (schema.kindOf(table, field) == TABLE) {
                    reached[records.links[slot]] = true;
                }
            }
            return true;
        }

        /** False if there were too many bytes; they are counted then, but not kept. */
        boolean assemble(int first) {
            Arrays.fill(bytes, (byte) 0);
            Arrays.fill(recordPlaces, 0);
            offsetsKept = 0;
            written = 0;
            widest = 4;
            putRecord(first, 1);
            alignTo(widest, 4);
            putNumber(written + 4 - recordPlaces[first], 4);
            return written <= MOST_BYTES;
        }

        private void putRecord(int record, int depth) {
            if (depth > MOST_RECORDS || recordPlaces[record] != 0) {
                return;
            }
            putContents(record, depth);
            int before = written;
            putFields(record);
            putNumber(0, 4);
            int place = written;
            recordPlaces[record] = place;
            draftOffsets(schema.fieldsOf(records.tableOf(record)), before, place);
            fillIn(place, placeOfDraft() - place);
        }

        private void putContents(int record, int depth) {
            int table = records.tableOf(record);
            for (int field = 0; field < schema.fieldsOf(table); field++) {
                int slot = slotOf(record, field);
                if (!records.filled[slot]) {
                    continue;
                }
                switch (schema.kindOf(table, field)) {
                    case TEXT:
                        putText(slot);
                        break;
                    case ROW:
                        putRow(slot);
                        break;
                    case TABLE:
                        putRecord(records.links[slot], depth + 1);
                        break;
                    default:
                        break;
                }
            }
        }

        private void putText(int slot) {
            int length = records.lengths[slot];
            alignTo(4, length + 1);
            putByte(0);
            for (int i = length - 1; i >= 0; i--) {
                putByte(records.itemOf(slot, i));
            }
            putNumber(length, 4);
            itemsPlaces[slot] = written;
        }

        private void putRow(int slot) {
            int length = records.lengths[slot];
            alignTo(4, 2 * length);
            for (int i = length - 1; i >= 0; i--) {
                putNumber(records.itemOf(slot, i), 2);
            }
            putNumber(length, 4);
            itemsPlaces[slot] = written;
        }

        private void putFields(int record) {
            int table = records.tableOf(record);
            for (int field = 0; field < schema.fieldsOf(table); field++) {
                int slot = slotOf(record, field);
                int kind = schema.kindOf(table, field);
                fieldPlaces[field] = 0;
                if (!records.filled[slot]) {
                    continue;
                }
                if (kind >= TEXT) {
                    putReference(kind == TABLE ? recordPlaces[records.links[slot]] : itemsPlaces[slot]);
                } else if (records.numbers[slot] == schema.extraOf(table, field)) {
                    continue;
                } else {
                    putNumber(records.numbers[slot], WIDTHS[kind]);
                }
                fieldPlaces[field] = written;
            }
        }

        private void putReference(int place) {
            alignTo(4, 0);
            putNumber(written + 4 - place, 4);
        }

        /** Written behind the offsets that are kept, where they are found again or stay. */
        private void draftOffsets(int fields, int before, int place) {
            int draft = offsetsKept * MOST_OFFSETS;
            int told = 0;
            for (int field = 0; field < fields; field++) {
                boolean put = fieldPlaces[field] != 0;
                offsets[draft + 2 + field] = put ? place - fieldPlaces[field] : 0;
                if (put) {
                    told = field + 1;
                }
            }
            offsets[draft] = 2 * (2 + told);
            offsets[draft + 1] = place - before;
        }

        private int placeOfDraft() {
            for (int i = 0; i < offsetsKept; i++) {
                if (isSameAsDraft(i)) {
                    return offsetsPlaces[i];
                }
            }
            int draft = offsetsKept * MOST_OFFSETS;
            for (int i = offsets[draft] / 2 - 1; i >= 0; i--) {
                putNumber(offsets[draft + i], 2);
            }
            offsetsPlaces[offsetsKept] = written;
            offsetsKept++;
            return written;
        }

        private boolean isSameAsDraft(int kept) {
            int draft = offsetsKept * MOST_OFFSETS;
            for (int i = 0; i < offsets[draft] / 2; i++) {
                if (offsets[kept * MOST_OFFSETS + i] != offsets[draft + i]) {
                    return false;
                }
            }
            return true;
        }

        /** The bytes are zeros before the building, so that only their number counts here. */
        private void alignTo(int width, int ahead) {
            widest = Math.max(widest, width);
            written += -(written + ahead) & (width - 1);
        }

        private void putNumber(long number, int width) {
            alignTo(width, 0);
            for (int i = width - 1; i >= 0; i--) {
                putByte((int) (number >> (8 * i)));
            }
        }

        private void putByte(int number) {
            written++;
            if (written <= MOST_BYTES) {
                bytes[MOST_BYTES - written] = (byte) number;
            }
        }

        private void fillIn(int place, int number) {
            if (place > MOST_BYTES) {
                return;
            }
            for (int i = 0; i < 4; i++) {
                bytes[MOST_BYTES - place + i] = (byte) (number >> (8 * i));
            }
        }
    }

    /** The data; an address without a byte reads as zero, so that no reading can fail. */
    private static final class Data {
        private final byte[] bytes = new byte[MOST_BYTES];
        private int length;

        void takeEnd(byte[] from, int size) {
            System.arraycopy(from, MOST_BYTES - size, bytes, 0, size);
            length = size;
        }

        boolean holds(int address) {
            return address >= 0 && address < length;
        }

        void put(int address, int number) {
            if (holds(address)) {
                bytes[address] = (byte) number;
            }
        }

        long signed(int address, int width) {
            long number = 0;
            for (int i = 0; i < width; i++) {
                int from = address + i;
                if (from >= 0 && from < length) {
                    number |= (bytes[from] & 255L) << (8 * i);
                }
            }
            int unused = 64 - 8 * width;
            return number << unused >> unused;
        }

        int unsignedByte(int address) {
            return (int) signed(address, 1) & 255;
        }

        int unsignedShort(int address) {
            return (int) signed(address, 2) & 65535;
        }

        int capped(int address) {
            long number = signed(address, 4) & 0xFFFFFFFFL;
            return (int) Math.min(number, NUMBER_CAP);
        }

        /** What the number at a place refers to. */
        int target(int place) {
            return place + capped(place);
        }

        /** May be anything in data that was not verified. */
        long offsetsOf(int table) {
            return table - signed(table, 4);
        }

        int offsetOf(int offsets, int field) {
            int ahead = 4 + 2 * field;
            return ahead < unsignedShort(offsets) ? unsignedShort(offsets + ahead) : 0;
        }

        /** Where a field of a table that was verified lies. */
        int placeOf(int table, int field) {
            int offset = offsetOf((int) offsetsOf(table), field);
            return offset == 0 ? NONE : table + offset;
        }
    }

    /** Looks for the first fault; its methods answer the fault's address or NONE. */
    private static final class Verifier {
        private final Schema schema;
        private final Data data;
        private int entered;

        Verifier(Schema schema, Data data) {
            this.schema = schema;
            this.data = data;
        }

        int inspect(int table) {
            entered = 0;
            if (data.length < 4) {
                return 0;
            }
            return inspectTable(data.capped(0), table, 0, 1);
        }

        private int inspectTable(int address, int table, int told, int depth) {
            if (address % 4 != 0 || address + 4 > data.length) {
                return told;
            }
            if (entered >= MOST_ENTERED || depth > MOST_NESTED) {
                return told;
            }
            entered++;
            long offsets = data.offsetsOf(address);
            if (offsets < 0 || offsets % 2 != 0 || offsets + 4 > data.length) {
                return address;
            }
            int wrong = inspectOffsets(address, (int) offsets);
            for (int field = 0; field < schema.fieldsOf(table) && wrong == NONE; field++) {
                wrong = inspectField(address, table, field, depth);
            }
            return wrong;
        }

        private int inspectOffsets(int address, int offsets) {
            int size = data.unsignedShort(offsets);
            if (size % 2 != 0 || size < 4 || offsets + size > data.length) {
                return offsets;
            }
            int span = data.unsignedShort(offsets + 2);
            if (span < 4 || address + span > data.length) {
                return offsets + 2;
            }
            return NONE;
        }

        private int inspectField(int address, int table, int field, int depth) {
            int offsets = (int) data.offsetsOf(address);
            int offset = data.offsetOf(offsets, field);
            if (offset == 0) {
                return schema.requires(table, field) ? address : NONE;
            }
            int kind = schema.kindOf(table, field);
            int width = WIDTHS[kind];
            int place = address + offset;
            int span = data.unsignedShort(offsets + 2);
            if (offset < 4 || offset + width > span || place % width != 0) {
                return offsets + 4 + 2 * field;
            }
            if (kind == TABLE) {
                return inspectTable(data.target(place), schema.extraOf(table, field), place, depth + 1);
            }
            return kind < TEXT || isSound(kind, data.target(place)) ? NONE : place;
        }

        private boolean isSound(int kind, int start) {
            if (start % 4 != 0 || start + 4 > data.length) {
                return false;
            }
            int length = data.capped(start);
            if (length > MOST_LENGTH) {
                return false;
            }
            if (kind == ROW) {
                return start + 4 + 2 * length <= data.length;
            }
            int end = start + 4 + length;
            return end < data.length && data.unsignedByte(end) == 0;
        }
    }

    /** Where the reading of verified data stands. */
    private static final class Cursor {
        private boolean verified;
        private int firstAddress;
        private int firstTable;
        private int address;
        private int table;

        void enter(int first, int tableOfFirst) {
            verified = true;
            firstAddress = first;
            firstTable = tableOfFirst;
            goFirst();
        }

        void leave() {
            verified = false;
        }

        void goFirst() {
            go(firstAddress, firstTable);
        }

        void go(int to, int tableThere) {
            address = to;
            table = tableThere;
        }
    }
}
