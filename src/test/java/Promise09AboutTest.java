/** Promise 9: about. */
public final class Promise09AboutTest {
    private static final Checks CHECKS = new Checks("promise 9, about");
    private static final Scene SCENE = new Scene(CHECKS);

    public static void main(String[] args) {
        tellsTheKind();
        tellsWhetherACode();
        tellsWhetherAtTheEnd();
        tellsTheLooseOctets();
        tellsTheLooseOctetsOfACode();
        tellsTheLooseOctetsAtTheEnd();
        changesNothing();
        refusesOtherStreams();
        refusesOtherQuestions();
        CHECKS.end();
    }

    // "its KIND (what = 0; NONE when it has not begun)"
    private static void tellsTheKind() {
        for (int stream = 0; stream < 4; stream++) {
            int s = stream;
            DigestStack x = new DigestStack();
            CHECKS.due("kind before the begin", DigestStack.NONE, () -> x.about(s, 0));
            for (int kind = 0; kind < 4; kind++) {
                x.begin(s, kind);
                CHECKS.due("kind of a digest", kind, () -> x.about(s, 0));
                x.finish(s);
                CHECKS.due("kind at the end", kind, () -> x.about(s, 0));
                x.code(s, kind);
                CHECKS.due("kind of a code", kind, () -> x.about(s, 0));
                x.finish(s);
                CHECKS.due("kind at the end of a code", kind, () -> x.about(s, 0));
            }
        }
    }

    // "whether it is a CODE (1; 1 or 0)"
    private static void tellsWhetherACode() {
        for (int stream = 0; stream < 4; stream++) {
            int s = stream;
            DigestStack x = new DigestStack();
            CHECKS.due("no code before the begin", 0, () -> x.about(s, 1));
            x.code(s, 1);
            CHECKS.due("a code", 1, () -> x.about(s, 1));
            x.finish(s);
            CHECKS.due("a code at its end", 1, () -> x.about(s, 1));
            x.begin(s, 1);
            CHECKS.due("a digest", 0, () -> x.about(s, 1));
            x.finish(s);
            CHECKS.due("a digest at its end", 0, () -> x.about(s, 1));
        }
    }

    // "is at its end (2)"
    private static void tellsWhetherAtTheEnd() {
        for (int stream = 0; stream < 4; stream++) {
            int s = stream;
            DigestStack x = new DigestStack();
            CHECKS.due("not at the end before the begin", 0, () -> x.about(s, 2));
            for (int turn = 0; turn < 2; turn++) {
                x.begin(s, 1);
                CHECKS.due("digest, not at the end", 0, () -> x.about(s, 2));
                x.finish(s);
                CHECKS.due("digest, at the end", 1, () -> x.about(s, 2));
                x.code(s, 1);
                CHECKS.due("code, not at the end", 0, () -> x.about(s, 2));
                x.finish(s);
                CHECKS.due("code, at the end", 1, () -> x.about(s, 2));
            }
        }
    }

    // "how many octets of its message are in no whole BLOCK yet": a full BLOCK counts no more
    private static void tellsTheLooseOctets() {
        for (int kind = 0; kind < 4; kind++) {
            DigestStack x = new DigestStack();
            x.begin(2, kind);
            CHECKS.due("loose octets of nothing", 0, () -> x.about(2, 3));
            for (int size = 1; size <= 200; size++) {
                x.repeat(2, 0, 1);
                CHECKS.due("kind " + kind + ", loose octets of " + size, size % Reference.BLOCKS[kind],
                        () -> x.about(2, 3));
            }
            for (int size : new int[] {63, 64, 65, 127, 128, 129, 600}) {
                DigestStack y = new DigestStack();
                y.begin(2, kind);
                Reference.feed(y, Reference.rising(1, size));
                CHECKS.due("the tape does not count yet", 0, () -> y.about(2, 3));
                y.update(2);
                CHECKS.due("kind " + kind + ", loose octets of " + size, size % Reference.BLOCKS[kind],
                        () -> y.about(2, 3));
            }
        }
    }

    // "with a CODE's KEY before, which is one": whatever size the KEY had
    private static void tellsTheLooseOctetsOfACode() {
        for (int kind = 0; kind < 4; kind++) {
            for (int keySize : new int[] {0, 1, 63, 64, 65, 127, 128, 129, 600}) {
                DigestStack x = new DigestStack();
                Reference.feed(x, Reference.rising(1, keySize));
                x.code(2, kind);
                CHECKS.due("loose octets of a key of " + keySize, 0, () -> x.about(2, 3));
                for (int size = 1; size <= 130; size++) {
                    x.repeat(2, 0, 1);
                    CHECKS.due("kind " + kind + ", loose octets of a code's " + size,
                            size % Reference.BLOCKS[kind], () -> x.about(2, 3));
                }
            }
        }
    }

    // The document is silent here: "its message" has as many octets at its end as before it.
    private static void tellsTheLooseOctetsAtTheEnd() {
        for (int kind = 0; kind < 4; kind++) {
            for (int size : new int[] {0, 1, 55, 56, 63, 64, 111, 112, 127, 128, 130}) {
                DigestStack x = new DigestStack();
                x.begin(0, kind);
                x.code(1, kind);
                for (int stream = 0; stream < 2; stream++) {
                    int s = stream;
                    x.repeat(s, 0, size);
                    x.finish(s);
                    CHECKS.due("loose octets at the end", size % Reference.BLOCKS[kind], () -> x.about(s, 3));
                }
            }
        }
    }

    private static void changesNothing() {
        DigestStack x = SCENE.made();
        SCENE.dueStates(-1, "once", x);
        SCENE.dueAsMade("behind about", x);
    }

    // "IndexOutOfBoundsException: there is no such STREAM"
    private static void refusesOtherStreams() {
        for (int stream : Reference.outside(0, 3)) {
            for (int what = 0; what < 4; what++) {
                int w = what;
                SCENE.outside("about(" + stream + ", " + w + ")", x -> x.about(stream, w));
            }
            SCENE.outside("about(" + stream + ", 4)", x -> x.about(stream, 4));
        }
    }

    // "or another what": of an open stream, a code, one at its end and one that has not begun
    private static void refusesOtherQuestions() {
        for (int what : Reference.outside(0, 3)) {
            for (int stream = 0; stream < 4; stream++) {
                int s = stream;
                SCENE.outside("about(" + s + ", " + what + ")", x -> x.about(s, what));
            }
        }
    }
}
