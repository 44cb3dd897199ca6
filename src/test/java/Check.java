/** Counts the calls whose answer is not the one that is due, and prints them. */
final class Check {
    /** A call of the face. */
    interface Call {
        long answer();
    }

    /** What a test does with an object. */
    interface Deed {
        long done(FlatStore store);
    }

    private final String name;
    private String words = "";
    private int tests;
    private int calls;
    private int callsOfSentence;
    private int wrong;

    Check(String name) {
        this.name = name;
    }

    /** The words of the document that the answers from here on are looked at for. */
    void sentence(String section, String quoted) {
        needCalls();
        words = " (" + section + ": " + quoted + ")";
        tests++;
        callsOfSentence = 0;
    }

    /** Each of the tests, though one before it could not go on. */
    void all(Runnable... methods) {
        for (Runnable method : methods) {
            try {
                method.run();
            } catch (RuntimeException e) {
                wrong++;
                callsOfSentence++;
                System.out.println(name + words + ": ended by " + e + " at " + e.getStackTrace()[0]);
            }
        }
    }

    /** A sentence without an answer would be a test that cannot fail. */
    private void needCalls() {
        if (tests > 0 && callsOfSentence == 0) {
            wrong++;
            System.out.println(name + words + ": no answer was looked at");
        }
    }

    /** The answer, or the name of what the call throws. */
    static String told(Call call) {
        try {
            return Long.toString(call.answer());
        } catch (RuntimeException e) {
            return "throws." + e.getClass().getSimpleName();
        }
    }

    void due(String what, long want, Call call) {
        compare(what, Long.toString(want), told(call));
    }

    void refused(String what, Class<? extends RuntimeException> want, Call call) {
        compare(what, "throws." + want.getSimpleName(), told(call));
    }

    void compare(String what, String want, String got) {
        calls++;
        callsOfSentence++;
        if (!want.equals(got)) {
            wrong++;
            System.out.println(name + words + ": " + what + " answered " + got + ", due is " + want);
        }
    }

    /** The bytes of the data, as far as the object gives any. */
    void bytes(String what, FlatStore store, int... want) {
        due(what + ": bytes of data", want.length, () -> store.count(0));
        for (int i = 0; i < want.length; i++) {
            int address = i;
            due(what + ": at(" + i + ")", want[i] & 255, () -> store.at(address));
        }
    }

    void end() {
        needCalls();
        System.out.println(name + ": " + tests + " tests of sentences, " + calls + " answers looked at, "
            + wrong + " not as due");
        if (wrong != 0 || calls == 0) {
            System.exit(1);
        }
    }
}
