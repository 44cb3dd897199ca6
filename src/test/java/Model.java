import java.util.ArrayList;
import java.util.LinkedList;
import java.util.List;
import java.util.NoSuchElementException;

/**
 * The document a second time, in another manner than the program: lists that grow at their front,
 * things instead of rows, and a fault that is thrown.
 */
final class Model {
    private static final int[] SIZES = {1, 2, 4, 8, 4, 4, 4};

    private static final class Kind {
        int kind;
        int x;
        boolean required;
    }

    private static final class Thing {
        int table;
        Object[] has = new Object[6];
        int place;
    }

    private static final class Fault extends RuntimeException {
        private static final long serialVersionUID = 1;
        final int address;

        Fault(long address) {
            this.address = (int) address;
        }
    }

    private final List<List<Kind>> schema = new ArrayList<>();
    private final List<Thing> records = new ArrayList<>();
    private final List<Short> buffer = new ArrayList<>();
    private List<Integer> data = new ArrayList<>();
    private int fault = -1;
    private int verifiedFor = -1;
    private long cursor;
    private int cursorTable;

    private LinkedList<Integer> out;
    private List<List<Integer>> offsets;
    private List<Integer> offsetPlaces;
    private int widest;
    private int entered;

    Model() {
        for (int i = 0; i < 4; i++) {
            schema.add(new ArrayList<>());
        }
    }

    int field(int table, int kind, int x, boolean required) {
        boolean bad = table < 0 || table > 3 || kind < 0 || kind > 6 || required && kind < 4
            || kind == 0 && (x < -128 || x > 127) || kind == 1 && (x < -32768 || x > 32767)
            || kind == 6 && (x < 0 || x > 3);
        if (bad) {
            throw new IllegalArgumentException();
        }
        List<Kind> fields = schema.get(table);
        if (fields.size() == 6) {
            throw new IllegalStateException();
        }
        Kind added = new Kind();
        added.kind = kind;
        added.x = x;
        added.required = required;
        fields.add(added);
        verifiedFor = -1;
        return fields.size() - 1;
    }

    int make(int table) {
        if (table < 0 || table > 3) {
            throw new IllegalArgumentException();
        }
        if (records.size() == 16) {
            throw new IllegalStateException();
        }
        Thing made = new Thing();
        made.table = table;
        records.add(made);
        return records.size() - 1;
    }

    private Thing thing(int record) {
        if (record < 0 || record >= records.size()) {
            throw new NoSuchElementException();
        }
        return records.get(record);
    }

    private Kind kind(int record, int field) {
        return kindIn(thing(record).table, field);
    }

    private Kind kindIn(int table, int field) {
        List<Kind> fields = schema.get(table);
        if (field < 0 || field >= fields.size()) {
            throw new NoSuchElementException();
        }
        return fields.get(field);
    }

    long number(int record, int field, long value) {
        Kind kind = kind(record, field);
        if (kind.kind > 3) {
            throw new UnsupportedOperationException();
        }
        int shift = 64 - 8 * SIZES[kind.kind];
        long kept = value << shift >> shift;
        records.get(record).has[field] = kept;
        return kept;
    }

    int add(int value) {
        if (buffer.size() == 12) {
            throw new IllegalStateException();
        }
        buffer.add((short) value);
        return buffer.size();
    }

    int fill(int record, int field) {
        Kind kind = kind(record, field);
        if (kind.kind != 4 && kind.kind != 5 || kind.kind == 5 && buffer.size() > 8) {
            throw new UnsupportedOperationException();
        }
        List<Integer> items = new ArrayList<>();
        for (short item : buffer) {
            items.add(kind.kind == 4 ? item & 127 : item);
        }
        buffer.clear();
        records.get(record).has[field] = items;
        return items.size();
    }

    int link(int record, int field, int other) {
        Kind kind = kind(record, field);
        Thing linked = thing(other);
        if (kind.kind != 6 || linked.table != kind.x || other >= record) {
            throw new UnsupportedOperationException();
        }
        records.get(record).has[field] = linked;
        return 1;
    }

    int unset(int record, int field) {
        kind(record, field);
        Object had = records.get(record).has[field];
        records.get(record).has[field] = null;
        return had == null ? 0 : 1;
    }

    int build(int record) {
        Thing first = thing(record);
        needAll(first, new ArrayList<>());
        out = new LinkedList<>();
        offsets = new ArrayList<>();
        offsetPlaces = new ArrayList<>();
        widest = 4;
        for (Thing thing : records) {
            thing.place = 0;
        }
        put(first);
        align(widest, 4);
        put(out.size() + 4 - first.place, 4);
        if (out.size() > 240) {
            throw new IndexOutOfBoundsException();
        }
        data = new ArrayList<>(out);
        verifiedFor = -1;
        return data.size();
    }

    private void needAll(Thing thing, List<Thing> seen) {
        if (seen.contains(thing)) {
            return;
        }
        seen.add(thing);
        List<Kind> fields = schema.get(thing.table);
        for (int i = 0; i < fields.size(); i++) {
            if (fields.get(i).required && thing.has[i] == null) {
                throw new IllegalStateException();
            }
            if (thing.has[i] instanceof Thing) {
                needAll((Thing) thing.has[i], seen);
            }
        }
    }

    private void align(int n, int m) {
        widest = Math.max(widest, n);
        while ((out.size() + m) % n != 0) {
            out.addFirst(0);
        }
    }

    private void put(long number, int n) {
        align(n, 0);
        for (int i = n - 1; i >= 0; i--) {
            out.addFirst((int) (number >> 8 * i & 255));
        }
    }

    private void put(Thing thing) {
        if (thing.place != 0) {
            return;
        }
        List<Kind> fields = schema.get(thing.table);
        int[] places = new int[6];
        for (int i = 0; i < fields.size(); i++) {
            if (thing.has[i] instanceof Thing) {
                put((Thing) thing.has[i]);
                places[i] = ((Thing) thing.has[i]).place;
            } else if (thing.has[i] instanceof List) {
                putItems((List<?>) thing.has[i], fields.get(i).kind == 4);
                places[i] = out.size();
            }
        }
        int before = out.size();
        List<Integer> fieldPlaces = new ArrayList<>();
        for (int i = 0; i < fields.size(); i++) {
            Object has = thing.has[i];
            if (has == null || has instanceof Long && (Long) has == fields.get(i).x) {
                continue;
            }
            if (has instanceof Long) {
                put((Long) has, SIZES[fields.get(i).kind]);
            } else {
                align(4, 0);
                put(out.size() + 4 - places[i], 4);
            }
            while (fieldPlaces.size() < i) {
                fieldPlaces.add(-1);
            }
            fieldPlaces.add(out.size());
        }
        put(0, 4);
        thing.place = out.size();
        int offsetsAt = offsets(thing.place, before, fieldPlaces);
        for (int i = 0; i < 4; i++) {
            out.set(out.size() - thing.place + i, offsetsAt - thing.place >> 8 * i & 255);
        }
    }

    private void putItems(List<?> items, boolean text) {
        align(4, text ? items.size() + 1 : 2 * items.size());
        if (text) {
            out.addFirst(0);
        }
        for (int i = items.size() - 1; i >= 0; i--) {
            put((Integer) items.get(i), text ? 1 : 2);
        }
        put(items.size(), 4);
    }

    private int offsets(int place, int before, List<Integer> fieldPlaces) {
        List<Integer> made = new ArrayList<>();
        made.add(2 * (fieldPlaces.size() + 2));
        made.add(place - before);
        for (int fieldPlace : fieldPlaces) {
            made.add(fieldPlace < 0 ? 0 : place - fieldPlace);
        }
        int known = offsets.indexOf(made);
        if (known >= 0) {
            return offsetPlaces.get(known);
        }
        for (int i = made.size() - 1; i >= 0; i--) {
            put(made.get(i), 2);
        }
        offsets.add(made);
        offsetPlaces.add(out.size());
        return out.size();
    }

    int at(int address) {
        if (address < 0 || address >= data.size()) {
            throw new IndexOutOfBoundsException();
        }
        return data.get(address);
    }

    int patch(int address, int value) {
        int old = at(address);
        data.set(address, value & 255);
        verifiedFor = -1;
        return old;
    }

    int cut(int n) {
        if (n < 0 || n > data.size()) {
            throw new IndexOutOfBoundsException();
        }
        int gone = data.size() - n;
        data = new ArrayList<>(data.subList(0, n));
        verifiedFor = -1;
        return gone;
    }

    private long read(long address, int n) {
        long number = 0;
        for (int i = n - 1; i >= 0; i--) {
            number = number * 256 + data.get((int) address + i);
        }
        return n == 4 ? Math.min(number, 100000) : number;
    }

    private long readSigned(long address, int n) {
        long number = 0;
        for (int i = n - 1; i >= 0; i--) {
            number = number << 8 | data.get((int) address + i);
        }
        int shift = 64 - 8 * n;
        return number << shift >> shift;
    }

    private static void need(boolean right, long address) {
        if (!right) {
            throw new Fault(address);
        }
    }

    int verify(int table) {
        if (table < 0 || table > 3) {
            throw new IllegalArgumentException();
        }
        verifiedFor = -1;
        fault = -1;
        entered = 0;
        try {
            need(data.size() >= 4, 0);
            verifyTable(read(0, 4), table, 0, 1);
        } catch (Fault found) {
            fault = found.address;
        }
        if (fault >= 0) {
            throw new IllegalArgumentException();
        }
        verifiedFor = table;
        top();
        return entered;
    }

    private void verifyTable(long a, int table, long told, int nested) {
        int size = data.size();
        need(a % 4 == 0 && a + 4 <= size, told);
        entered++;
        need(entered < 17 && nested < 7, told);
        long v = a - readSigned(a, 4);
        need(v % 2 == 0 && v >= 0 && v + 4 <= size, a);
        long s = read(v, 2);
        need(s % 2 == 0 && s >= 4 && v + s <= size, v);
        long l = read(v + 2, 2);
        need(l >= 4 && a + l <= size, v + 2);
        List<Kind> fields = schema.get(table);
        for (int i = 0; i < fields.size(); i++) {
            Kind kind = fields.get(i);
            long told2 = v + 4 + 2 * i;
            long o = told2 < v + s ? read(told2, 2) : 0;
            if (o == 0) {
                need(!kind.required, a);
                continue;
            }
            int n = SIZES[kind.kind];
            need(o >= 4 && o + n <= l && (a + o) % n == 0, told2);
            if (kind.kind > 3) {
                long x = a + o + read(a + o, 4);
                if (kind.kind == 6) {
                    verifyTable(x, kind.x, a + o, nested + 1);
                } else {
                    verifyItems(x, kind.kind == 4, a + o);
                }
            }
        }
    }

    private void verifyItems(long x, boolean text, long told) {
        int size = data.size();
        need(x % 4 == 0 && x + 4 <= size, told);
        long k = read(x, 4);
        need(k <= 200, told);
        if (text) {
            need(x + 5 + k <= size, told);
            need(read(x + 4 + k, 1) == 0, told);
        } else {
            need(x + 4 + 2 * k <= size, told);
        }
    }

    int fault() {
        return fault;
    }

    private void needVerified() {
        if (verifiedFor < 0) {
            throw new IllegalStateException();
        }
    }

    int top() {
        needVerified();
        cursor = read(0, 4);
        cursorTable = verifiedFor;
        return 1;
    }

    private Kind kindHere(int field, int from, int to) {
        needVerified();
        Kind kind = kindIn(cursorTable, field);
        if (kind.kind < from || kind.kind > to) {
            throw new UnsupportedOperationException();
        }
        return kind;
    }

    /** 0 if the field has nothing: no field lies there. */
    private long here(int field) {
        long v = cursor - readSigned(cursor, 4);
        if (4 + 2 * field >= read(v, 2)) {
            return 0;
        }
        long o = read(v + 4 + 2 * field, 2);
        return o == 0 ? 0 : cursor + o;
    }

    int down(int field) {
        Kind kind = kindHere(field, 6, 6);
        long place = here(field);
        if (place == 0) {
            return 0;
        }
        cursor = place + read(place, 4);
        cursorTable = kind.x;
        return 1;
    }

    long value(int field) {
        Kind kind = kindHere(field, 0, 3);
        long place = here(field);
        return place == 0 ? kind.x : readSigned(place, SIZES[kind.kind]);
    }

    int size(int field) {
        kindHere(field, 4, 5);
        long place = here(field);
        return place == 0 ? -1 : (int) read(place + read(place, 4), 4);
    }

    int element(int field, int index) {
        int length = size(field);
        if (index < 0 || index >= length) {
            throw new IndexOutOfBoundsException();
        }
        long place = here(field);
        long items = place + read(place, 4) + 4;
        if (kindIn(cursorTable, field).kind == 4) {
            return (int) read(items + index, 1);
        }
        return (int) readSigned(items + 2 * index, 2);
    }

    int count(int what) {
        int fields = 0;
        for (List<Kind> table : schema) {
            fields += table.size();
        }
        int[] counts = {data.size(), records.size(), fields, buffer.size(),
            verifiedFor < 0 ? 0 : 1, verifiedFor < 0 ? -1 : cursorTable};
        if (what < 0 || what >= counts.length) {
            throw new IllegalArgumentException();
        }
        return counts[what];
    }
}
