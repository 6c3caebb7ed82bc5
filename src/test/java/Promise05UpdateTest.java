/** Promise 5: update. */
public final class Promise05UpdateTest {
    private static final Checks CHECKS = new Checks("promise 5, update");
    private static final Scene SCENE = new Scene(CHECKS);
    private static final int[] SIZES = {0, 1, 63, 64, 65, 127, 128, 129, 599, 600};

    public static void main(String[] args) {
        takesTapesOfAllSizes();
        comesBehindTheMessage();
        takesAnEmptyTape();
        usesTheTapeUp();
        countsNoKey();
        takesEveryStream();
        leavesTheRest();
        refusesOtherStreams();
        refusesWhatHasNotBegun();
        refusesWhatIsAtItsEnd();
        CHECKS.end();
    }

    // "THE TAPE comes behind the message of a STREAM. Answers how many octets it has then."
    private static void takesTapesOfAllSizes() {
        for (int kind = 0; kind < 4; kind++) {
            for (int size : SIZES) {
                byte[] message = Reference.rising(3, size);
                DigestStack x = new DigestStack();
                x.begin(0, kind);
                Reference.feed(x, message);
                CHECKS.due("update by " + size, (long) size, () -> x.update(0));
                x.finish(0);
                CHECKS.dueOut("kind " + kind + ", update by " + size, Reference.digest(kind, message), x);
            }
        }
    }

    private static void comesBehindTheMessage() {
        for (int kind = 0; kind < 4; kind++) {
            DigestStack x = new DigestStack();
            x.begin(0, kind);
            byte[] message = {};
            for (int size : new int[] {1, 62, 1, 1, 0, 63, 64, 65, 127, 128, 129, 600}) {
                byte[] piece = Reference.rising(size, size);
                message = Reference.join(message, piece);
                long length = message.length;
                Reference.feed(x, piece);
                CHECKS.due("update to " + length, length, () -> x.update(0));
            }
            x.finish(0);
            CHECKS.dueOut("kind " + kind + ", updates", Reference.digest(kind, message), x);
        }
    }

    private static void takesAnEmptyTape() {
        Scene scene = new Scene(CHECKS, 0, 40);
        DigestStack x = scene.made();
        CHECKS.due("update of a digest by nothing", 70L, () -> x.update(Scene.OPEN));
        CHECKS.due("update of a code by nothing", 130L, () -> x.update(Scene.OPEN_CODE));
        scene.dueAsMade("behind updates by nothing", x);
    }

    // "what reads it uses it up"
    private static void usesTheTapeUp() {
        for (int size : SIZES) {
            DigestStack x = new Scene(CHECKS, size, 40).made();
            CHECKS.due("update by " + size, 70L + size, () -> x.update(Scene.OPEN));
            CHECKS.due("update by a used tape", 70L + size, () -> x.update(Scene.OPEN));
            CHECKS.due("feed behind update", 1, () -> x.feed(1, 0x33));
            CHECKS.dueTape("behind update", Reference.hex("33"), x);
        }
    }

    // "the message of a STREAM": a CODE's KEY is none of it
    private static void countsNoKey() {
        for (int size : SIZES) {
            DigestStack x = new DigestStack();
            Reference.feed(x, Reference.rising(8, size));
            x.code(0, 2);
            CHECKS.due("update of a code by nothing", 0L, () -> x.update(0));
            x.feed(8, -1);
            CHECKS.due("update of a code by 8", 8L, () -> x.update(0));
            x.finish(0);
            CHECKS.dueOut("update of a code", Reference.code(2, Reference.rising(8, size), Reference.same(-1, 8)), x);
        }
    }

    private static void takesEveryStream() {
        DigestStack x = new DigestStack();
        for (int stream = 0; stream < 4; stream++) {
            x.begin(stream, stream);
        }
        for (int stream = 0; stream < 4; stream++) {
            int s = stream;
            Reference.feed(x, Reference.rising(s, 3 + s));
            CHECKS.due("update(" + s + ")", 3L + s, () -> x.update(s));
        }
        for (int stream = 0; stream < 4; stream++) {
            x.finish(stream);
            CHECKS.dueOut("stream " + stream, Reference.digest(stream, Reference.rising(stream, 3 + stream)), x);
        }
    }

    private static void leavesTheRest() {
        for (int stream = 0; stream < 2; stream++) {
            DigestStack x = SCENE.made();
            x.update(stream);
            Reference.feed(x, SCENE.tape);
            SCENE.dueButStream(stream, "behind update(" + stream + ")", x);
        }
    }

    // "IndexOutOfBoundsException: there is no such STREAM.", "THE TAPE stays with both"
    private static void refusesOtherStreams() {
        for (int stream : Reference.outside(0, 3)) {
            for (int size : new int[] {0, 5, 600}) {
                new Scene(CHECKS, size, 40).outside("update(" + stream + ")", x -> x.update(stream));
            }
        }
    }

    // "IllegalStateException: it has not begun", "THE TAPE stays with both"
    private static void refusesWhatHasNotBegun() {
        for (int size : new int[] {0, 1, 600}) {
            new Scene(CHECKS, size, 40).unready("update before the begin", x -> x.update(Scene.NOT_BEGUN));
        }
    }

    // "or is at its end (THE TAPE stays with both)"
    private static void refusesWhatIsAtItsEnd() {
        for (int size : new int[] {0, 1, 600}) {
            new Scene(CHECKS, size, 40).unready("update behind the end", x -> x.update(Scene.ENDED));
        }
        DigestStack x = SCENE.made();
        x.finish(Scene.OPEN_CODE);
        CHECKS.unready("update behind the end of a code", () -> x.update(Scene.OPEN_CODE));
        CHECKS.dueOut("OUT behind it", Reference.code(2, Scene.CODE_KEY, Scene.CODE_MESSAGE), x);
        SCENE.dueButStreamAndOut(Scene.OPEN_CODE, "behind update of an ended code", x);
    }
}
