/**
 * An object no part of which is as in a new one, and calls that show each part: so a call that
 * throws, or answers NONE, can be seen to change nothing.
 */
final class Scene {
    /** A call on the object that a scene makes. */
    interface Use {
        void on(DigestStack x);
    }

    /** A call with a number for an answer. */
    interface Asking {
        int on(DigestStack x);
    }

    static final int OPEN = 0;
    static final int OPEN_CODE = 1;
    static final int ENDED = 2;
    static final int NOT_BEGUN = 3;

    static final byte[] KEY = Reference.rising(11, 20);
    static final byte[] SALT = Reference.rising(60, 70);
    static final byte[] INFO = Reference.rising(200, 9);
    static final byte[] CODE_KEY = Reference.text("Jefe");
    static final byte[] OPEN_MESSAGE = Reference.same('a', 70);
    static final byte[] CODE_MESSAGE = Reference.same('b', 130);
    private static final int NOBODY = -1;
    private static final int[][] STATES = {{1, 0, 0, 6}, {2, 1, 0, 2}, {3, 0, 1, 10}, {-1, 0, 0, 0}};

    final byte[] tape;
    final byte[] out;
    private final Checks checks;

    Scene(Checks checks, int tapeSize, int outSize) {
        this.checks = checks;
        tape = Reference.rising(101, tapeSize);
        out = Reference.spread(3, KEY, INFO, outSize);
    }

    Scene(Checks checks) {
        this(checks, 5, 40);
    }

    DigestStack made() {
        DigestStack x = new DigestStack();
        Reference.hold(x, 0, KEY);
        Reference.hold(x, 1, SALT);
        Reference.hold(x, 2, INFO);
        x.begin(OPEN, 1);
        x.repeat(OPEN, 'a', 70);
        Reference.feed(x, CODE_KEY);
        x.code(OPEN_CODE, 2);
        x.repeat(OPEN_CODE, 'b', 130);
        x.begin(ENDED, 3);
        x.repeat(ENDED, 'c', 10);
        x.finish(ENDED);
        x.spread(3, out.length);
        Reference.feed(x, tape);
        return x;
    }

    void outside(String what, Use use) {
        throwing("IndexOutOfBoundsException", what, use);
    }

    void unready(String what, Use use) {
        throwing("IllegalStateException", what, use);
    }

    void refused(String what, Use use) {
        throwing("IllegalArgumentException", what, use);
    }

    void none(String what, Asking asking) {
        DigestStack x = made();
        checks.due(what, DigestStack.NONE, () -> asking.on(x));
        dueAsMade("behind " + what, x);
    }

    /** All is as it was made. The calls that show it change it: an object is asked but once. */
    void dueAsMade(String what, DigestStack x) {
        dueButStream(NOBODY, what, x);
    }

    /** All but one STREAM is as it was made. */
    void dueButStream(int stream, String what, DigestStack x) {
        checks.dueOut(what + ", OUT", out, x);
        dueButStreamAndOut(stream, what, x);
    }

    /** All but OUT is as it was made. */
    void dueButOut(String what, DigestStack x) {
        dueButStreamAndOut(NOBODY, what, x);
    }

    void dueButStreamAndOut(int stream, String what, DigestStack x) {
        dueStates(stream, what, x);
        checks.dueTape(what, tape, x);
        dueButTape(stream, what, x);
    }

    /** All but THE TAPE, OUT, STREAM 3 and one STREAM more is as it was made. */
    void dueButTape(int stream, String what, DigestStack x) {
        checks.dueRegisters(what, KEY, SALT, INFO, x);
        if (stream != OPEN) {
            checks.due(what + ", length of a digest", 70L, () -> x.repeat(OPEN, 0, 0));
            checks.due(what + ", end of a digest", 32, () -> x.finish(OPEN));
            checks.dueOut(what + ", end of a digest", Reference.digest(1, OPEN_MESSAGE), x);
        }
        if (stream != OPEN_CODE) {
            checks.due(what + ", length of a code", 130L, () -> x.repeat(OPEN_CODE, 0, 0));
            checks.due(what + ", end of a code", 48, () -> x.finish(OPEN_CODE));
            checks.dueOut(what + ", end of a code", Reference.code(2, CODE_KEY, CODE_MESSAGE), x);
        }
    }

    void dueStates(int but, String what, DigestStack x) {
        for (int stream = 0; stream < 4; stream++) {
            for (int about = 0; about < 4 && stream != but; about++) {
                int s = stream;
                int a = about;
                checks.due(what + ", about(" + s + ", " + a + ")", STATES[s][a], () -> x.about(s, a));
            }
        }
    }

    private void throwing(String exception, String what, Use use) {
        DigestStack x = made();
        checks.due(what, "throws." + exception, () -> {
            use.on(x);
            return "done";
        });
        dueAsMade("behind " + what, x);
    }
}
