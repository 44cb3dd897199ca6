import java.util.Random;

/** Runs of calls drawn from fixed seeds, answered by the program and by the model alike. */
public final class ModelTest {
    private static final int RUNS = 4000;
    private static final int CALLS = 512;
    /** More calls than one step ever makes, the bytes that it may compare not counted. */
    private static final int STEP = 20;
    private static final Check check = new Check("ModelTest");

    private final Random random;
    private final int run;
    private final FlatStore store = new FlatStore();
    private final Model model = new Model();
    private int calls;

    private ModelTest(int run) {
        this.run = run;
        this.random = new Random(run);
    }

    public static void main(String[] args) {
        for (int run = 1; run <= RUNS; run++) {
            new ModelTest(run).play();
        }
        check.end();
    }

    private String both(String what, Check.Call asked, Check.Call due) {
        calls++;
        String want = Check.told(due);
        check.compare("run " + run + ", call " + calls + ": " + what, want, Check.told(asked));
        return want;
    }

    private int below(int bound) {
        return random.nextInt(bound);
    }

    private boolean oneIn(int n) {
        return below(n) == 0;
    }

    /** Mostly 0 .. most, now and then just outside or far away. */
    private int near(int most) {
        if (oneIn(40)) {
            int[] far = {-1, most + 1, Integer.MIN_VALUE, Integer.MAX_VALUE};
            return far[below(far.length)];
        }
        return below(most + 1);
    }

    private void play() {
        int fields = 1 + below(16);
        int tables = 1 + below(4);
        for (int i = 0; i < fields; i++) {
            field(tables);
        }
        int records = 1 + below(16);
        for (int i = 0; i < records; i++) {
            make(tables);
        }
        for (int i = below(60); i > 0 && hasRoomFor(STEP); i--) {
            give();
        }
        while (hasRoomFor(STEP)) {
            step(tables);
        }
        for (int what = 0; what < 6; what++) {
            count(what);
        }
    }

    /** Nothing is promised for a call behind the last one; the counts come at the end of a run. */
    private boolean hasRoomFor(int more) {
        return calls + more + 6 <= CALLS;
    }

    private void step(int tables) {
        switch (below(12)) {
            case 0:
                if (oneIn(6)) {
                    field(tables);
                }
                make(tables);
                break;
            case 1:
            case 2:
                give();
                break;
            case 3:
            case 4:
                build();
                break;
            case 5:
                spoil();
                break;
            case 6:
                count(near(5));
                at();
                break;
            default:
                verify(tables);
                break;
        }
    }

    private void field(int tables) {
        int table = oneIn(10) ? near(3) : below(tables);
        int kind = oneIn(3) ? 6 : near(6);
        int x = kind == 6 ? (oneIn(20) ? near(3) : below(tables)) : drawnDefault();
        boolean required = oneIn(6);
        both("field(" + table + ", " + kind + ", " + x + ", " + required + ")",
            () -> store.field(table, kind, x, required), () -> model.field(table, kind, x, required));
    }

    private int drawnDefault() {
        int[] edges = {0, 0, 1, -1, 127, 128, -128, -129, 32767, 32768, -32768, -32769,
            Integer.MIN_VALUE, Integer.MAX_VALUE};
        return oneIn(3) ? edges[below(edges.length)] : below(3);
    }

    private void make(int tables) {
        int table = oneIn(20) ? near(3) : below(tables);
        both("make(" + table + ")", () -> store.make(table), () -> model.make(table));
    }

    /** Something or nothing for a field of a record. */
    private void give() {
        int record = near(Math.max(0, model.count(1) - 1));
        int field = near(5);
        int other = near(Math.max(0, record > 0 && record < 16 ? record - 1 : 0));
        switch (below(8)) {
            case 0:
            case 1:
                long value = oneIn(2) ? below(3) : random.nextLong() >> below(64);
                both("number(" + record + ", " + field + ", " + value + ")",
                    () -> store.number(record, field, value), () -> model.number(record, field, value));
                break;
            case 2:
            case 3:
                for (int i = below(oneIn(3) ? 14 : 5); i > 0; i--) {
                    int item = oneIn(2) ? random.nextInt() : below(130);
                    both("add(" + item + ")", () -> store.add(item), () -> model.add(item));
                }
                both("fill(" + record + ", " + field + ")",
                    () -> store.fill(record, field), () -> model.fill(record, field));
                break;
            case 4:
            case 5:
            case 6:
                both("link(" + record + ", " + field + ", " + other + ")",
                    () -> store.link(record, field, other), () -> model.link(record, field, other));
                break;
            default:
                both("unset(" + record + ", " + field + ")",
                    () -> store.unset(record, field), () -> model.unset(record, field));
                break;
        }
    }

    private void build() {
        int record = near(Math.max(0, model.count(1) - 1));
        String size = both("build(" + record + ")", () -> store.build(record), () -> model.build(record));
        if (!size.startsWith("throws") && oneIn(3) && hasRoomFor(model.count(0))) {
            sameBytes();
        }
    }

    private void sameBytes() {
        calls += model.count(0);
        StringBuilder want = new StringBuilder();
        StringBuilder got = new StringBuilder();
        for (int i = 0; i < model.count(0); i++) {
            int address = i;
            want.append(model.at(i)).append(' ');
            got.append(Check.told(() -> store.at(address))).append(' ');
        }
        check.compare("run " + run + ", call " + calls + ": bytes", want.toString(), got.toString());
    }

    private void at() {
        int address = near(Math.max(0, model.count(0) - 1));
        both("at(" + address + ")", () -> store.at(address), () -> model.at(address));
    }

    private void spoil() {
        if (oneIn(8)) {
            int n = oneIn(2) ? near(model.count(0)) : Math.max(0, model.count(0) - below(6));
            both("cut(" + n + ")", () -> store.cut(n), () -> model.cut(n));
            return;
        }
        int address = near(Math.max(0, model.count(0) - 1));
        int old = model.count(0) > 0 && address >= 0 && address < model.count(0) ? model.at(address) : 0;
        int[] values = {old + 1, old - 1, old + 2, old - 2, old + 4, old - 4, 0, 255, 128, below(256)};
        int value = values[below(values.length)];
        both("patch(" + address + ", " + value + ")",
            () -> store.patch(address, value), () -> model.patch(address, value));
    }

    private void verify(int tables) {
        int table = oneIn(10) ? near(3) : below(tables);
        both("verify(" + table + ")", () -> store.verify(table), () -> model.verify(table));
        both("fault()", store::fault, model::fault);
        for (int i = below(12); i > 0; i--) {
            look();
        }
    }

    private void look() {
        int field = near(5);
        int index = near(4);
        switch (below(6)) {
            case 0:
                if (oneIn(3)) {
                    both("top()", store::top, model::top);
                }
                break;
            case 1:
                both("down(" + field + ")", () -> store.down(field), () -> model.down(field));
                break;
            case 2:
                both("value(" + field + ")", () -> store.value(field), () -> model.value(field));
                break;
            case 3:
                both("size(" + field + ")", () -> store.size(field), () -> model.size(field));
                break;
            case 4:
                both("element(" + field + ", " + index + ")",
                    () -> store.element(field, index), () -> model.element(field, index));
                break;
            default:
                count(5);
                break;
        }
    }

    private void count(int what) {
        both("count(" + what + ")", () -> store.count(what), () -> model.count(what));
    }
}
