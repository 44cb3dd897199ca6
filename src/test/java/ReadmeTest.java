import java.io.IOException;
import java.nio.file.Files;
import java.nio.file.Path;

/** The example of README.md: it stands there as it does here, and answers what it says. */
public final class ReadmeTest {
    private static final Check check = new Check("ReadmeTest");

    public static void main(String[] args) throws IOException {
        example();
        String here = between(Files.readString(Path.of("src/test/java/ReadmeTest.java")),
            "        // begin\n", "        // end\n").replaceAll("(?m)^ {8}", "");
        String there = between(Files.readString(Path.of("README.md")), "```java\n", "```\n");
        check.compare("the example of README.md", here, there);
        check.end();
    }

    private static String between(String text, String begin, String end) {
        int from = text.indexOf(begin) + begin.length();
        return text.substring(from, text.indexOf(end, from));
    }

    private static void example() {
        // begin
        FlatStore store = new FlatStore();
        store.field(0, 2, 100, false);       // table 0, field 0: an int, 100 by default
        store.field(0, 4, 0, true);          // table 0, field 1: a text that must be there
        store.field(0, 6, 1, false);         // table 0, field 2: a table 1
        store.field(1, 5, 0, false);         // table 1, field 0: a row of shorts

        int point = store.make(1);
        store.add(3);
        store.add(-4);
        store.fill(point, 0);                // the numbers added become the row 3, -4

        int record = store.make(0);
        store.number(record, 0, 7);
        store.add('H');
        store.add('i');
        store.fill(record, 1);               // these become the text "Hi"
        store.link(record, 2, point);        // a link leads to a record that was made before

        int bytes = store.build(record);     // 64: the data is these bytes now
        int tables = store.verify(0);        // 2: the bytes are sound, the cursor is at the record

        long number = store.value(0);        // 7
        int length = store.size(1);          // 2
        int character = store.element(1, 0); // 72, which is 'H'
        store.down(2);                       // the cursor goes to the point
        int second = store.element(0, 1);    // -4
        store.top();                         // and back to the record

        store.patch(0, 5);                   // no table can be at 5
        try {
            store.verify(0);
        } catch (IllegalArgumentException e) {
            int address = store.fault();     // 0: the 4 bytes there are wrong
        }
        // end
        check.due("bytes", 64, () -> bytes);
        check.due("tables", 2, () -> tables);
        check.due("number", 7, () -> number);
        check.due("length", 2, () -> length);
        check.due("character", 'H', () -> character);
        check.due("second", -4, () -> second);
        check.refused("verify(0)", IllegalArgumentException.class, () -> store.verify(0));
        check.due("address", 0, store::fault);
    }
}
