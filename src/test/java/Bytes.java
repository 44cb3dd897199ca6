import java.util.Arrays;

/** Bytes written out by hand, to become the data of an object without a building of them. */
final class Bytes {
    private final int[] bytes;

    Bytes(int size) {
        bytes = new int[size];
    }

    Bytes copy() {
        return sized(bytes.length);
    }

    /** The same bytes, but cut or with zeros behind them. */
    Bytes sized(int size) {
        Bytes other = new Bytes(size);
        System.arraycopy(bytes, 0, other.bytes, 0, Math.min(size, bytes.length));
        return other;
    }

    Bytes one(int address, int number) {
        return put(address, number, 1);
    }

    Bytes two(int address, int number) {
        return put(address, number, 2);
    }

    Bytes four(int address, long number) {
        return put(address, number, 4);
    }

    private Bytes put(int address, long number, int width) {
        for (int i = 0; i < width; i++) {
            bytes[address + i] = (int) (number >> 8 * i) & 255;
        }
        return this;
    }

    /** Data that refers to a table at an address, with its offsets and what they tell. */
    Bytes table(int address, int offsets, int... told) {
        four(address, address - offsets);
        for (int i = 0; i < told.length; i++) {
            two(offsets + 2 * i, told[i]);
        }
        return this;
    }

    /** A new object whose data is these bytes, and whose tables 0 to 2 have no field yet. */
    FlatStore store() {
        FlatStore store = Sample.full();
        store.cut(bytes.length);
        for (int i = 0; i < bytes.length; i++) {
            store.patch(i, bytes[i]);
        }
        return store;
    }

    @Override
    public String toString() {
        return Arrays.toString(bytes);
    }
}
