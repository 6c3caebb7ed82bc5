/** Promise 6: repeat; long messages, and of an object the last of its 512 calls. */
public final class Promise06RepeatTest {
    private static final Checks CHECKS = new Checks("promise 6, repeat");
    private static final Scene SCENE = new Scene(CHECKS);

    public static void main(String[] args) {
        takesTheLowestEightBits();
        takesAllCounts();
        refusesOtherCounts();
        comesBehindTheMessage();
        countsNoKey();
        countsTheBitsInEveryOctet();
        goesToTheLastCall();
        leavesTheRest();
        refusesOtherStreams();
        refusesWhatHasNotBegun();
        refusesWhatIsAtItsEnd();
        CHECKS.end();
    }

    // "the lowest 8 bits of v"
    private static void takesTheLowestEightBits() {
        int[] values = {0, 1, 127, 128, 255, 256, 257, 511, 65536, -1, -128, -129, -256, -257,
            Integer.MIN_VALUE, Integer.MIN_VALUE + 128, Integer.MAX_VALUE};
        for (int kind = 1; kind < 4; kind += 2) {
            for (int v : values) {
                DigestStack x = new DigestStack();
                x.begin(0, kind);
                CHECKS.due("repeat(0, " + v + ", 150)", 150L, () -> x.repeat(0, v, 150));
                x.finish(0);
                CHECKS.dueOut("repeat(0, " + v + ", 150)", Reference.digest(kind, Reference.same(v & 255, 150)), x);
            }
        }
    }

    // "n times comes behind the message", "n is not 0 .. 20000": these are
    private static void takesAllCounts() {
        for (int kind = 0; kind < 4; kind++) {
            for (int n : new int[] {0, 1, 63, 64, 65, 127, 128, 129, 255, 256, 257, 19999, 20000}) {
                DigestStack x = new DigestStack();
                x.begin(0, kind);
                CHECKS.due("repeat " + n + " times", (long) n, () -> x.repeat(0, 97, n));
                CHECKS.due("loose octets", n % Reference.BLOCKS[kind], () -> x.about(0, 3));
                x.finish(0);
                CHECKS.dueOut("kind " + kind + ", repeat " + n + " times",
                        Reference.digest(kind, Reference.same(97, n)), x);
            }
        }
        DigestStack x = SCENE.made();
        CHECKS.due("repeat 0 times", 70L, () -> x.repeat(Scene.OPEN, 1, 0));
        CHECKS.due("repeat 0 times of a code", 130L, () -> x.repeat(Scene.OPEN_CODE, 1, 0));
        SCENE.dueAsMade("behind repeat 0 times", x);
    }

    // "IllegalArgumentException: n is not 0 .. 20000."
    private static void refusesOtherCounts() {
        for (int n : Reference.outside(0, 20000)) {
            SCENE.refused("repeat(0, 2, " + n + ")", x -> x.repeat(Scene.OPEN, 2, n));
            SCENE.refused("repeat(1, 2, " + n + ")", x -> x.repeat(Scene.OPEN_CODE, 2, n));
        }
    }

    private static void comesBehindTheMessage() {
        DigestStack x = SCENE.made();
        CHECKS.due("repeat behind 70", 90L, () -> x.repeat(Scene.OPEN, 'z', 20));
        CHECKS.due("repeat once more", 91L, () -> x.repeat(Scene.OPEN, 'y', 1));
        x.finish(Scene.OPEN);
        CHECKS.dueOut("repeats", Reference.digest(1, Reference.join(Scene.OPEN_MESSAGE,
                Reference.same('z', 20), Reference.same('y', 1))), x);
    }

    private static void countsNoKey() {
        for (int size : new int[] {0, 1, 64, 65, 128, 129, 600}) {
            DigestStack x = new DigestStack();
            byte[] key = Reference.rising(8, size);
            Reference.feed(x, key);
            x.code(0, 1);
            CHECKS.due("repeat of a code 0 times", 0L, () -> x.repeat(0, 5, 0));
            CHECKS.due("repeat of a code 20000 times", 20000L, () -> x.repeat(0, 5, 20000));
            x.finish(0);
            CHECKS.dueOut("repeat of a code", Reference.code(1, key, Reference.same(5, 20000)), x);
        }
    }

    // "how many bits the message has, the highest octet first": where one octet more is needed
    private static void countsTheBitsInEveryOctet() {
        for (int kind = 0; kind < 4; kind++) {
            for (int size : new int[] {31, 32, 8191, 8192, 2097151, 2097152}) {
                DigestStack x = new DigestStack();
                x.begin(0, kind);
                repeatInPieces(x, size);
                CHECKS.due("length of " + size, (long) size, () -> x.repeat(0, 0, 0));
                x.finish(0);
                CHECKS.dueOut("kind " + kind + ", length of " + size,
                        Reference.digest(kind, Reference.same(7, size)), x);
            }
        }
    }

    private static void repeatInPieces(DigestStack x, int size) {
        for (int left = size; left > 0; left -= 20000) {
            x.repeat(0, 7, Math.min(left, 20000));
        }
    }

    // "An object is used for at most 512 calls": the longest message, and an answer by the last call
    private static void goesToTheLastCall() {
        byte[] message = Reference.same(7, 509 * 20000);
        for (int kind = 0; kind < 4; kind++) {
            DigestStack digest = new DigestStack();
            digest.begin(0, kind);
            DigestStack code = new DigestStack();
            code.code(0, kind);
            for (int i = 1; i <= 509; i++) {
                long length = 20000L * i;
                CHECKS.due("a digest's length", length, () -> digest.repeat(0, 7, 20000));
                CHECKS.due("a code's length", length, () -> code.repeat(0, 7, 20000));
            }
            CHECKS.due("finish by call 511", Reference.DIGESTS[kind], () -> digest.finish(0));
            CHECKS.due("finish of a code by call 511", Reference.DIGESTS[kind], () -> code.finish(0));
            CHECKS.due("outs by call 512", Reference.eight(Reference.digest(kind, message), 0), () -> digest.outs(0));
            CHECKS.due("outs of a code by call 512", Reference.eight(Reference.code(kind, new byte[0], message), 0),
                    () -> code.outs(0));
        }
    }

    private static void leavesTheRest() {
        for (int stream = 0; stream < 2; stream++) {
            DigestStack x = SCENE.made();
            x.repeat(stream, 1, 20000);
            SCENE.dueButStream(stream, "behind repeat of " + stream, x);
        }
    }

    // "IndexOutOfBoundsException: there is no such STREAM.", which goes before a wrong n
    private static void refusesOtherStreams() {
        for (int stream : Reference.outside(0, 3)) {
            for (int n : new int[] {0, 1, 20000, -1, 20001}) {
                SCENE.outside("repeat(" + stream + ", 2, " + n + ")", x -> x.repeat(stream, 2, n));
            }
        }
    }

    // "IllegalStateException: it has not begun", which goes before a wrong n
    private static void refusesWhatHasNotBegun() {
        for (int n : new int[] {0, 1, 20000, -1, 20001, Integer.MIN_VALUE, Integer.MAX_VALUE}) {
            SCENE.unready("repeat before the begin, n = " + n, x -> x.repeat(Scene.NOT_BEGUN, 2, n));
        }
    }

    // "or is at its end", which goes before a wrong n
    private static void refusesWhatIsAtItsEnd() {
        for (int n : new int[] {0, 1, 20000, -1, 20001, Integer.MIN_VALUE, Integer.MAX_VALUE}) {
            SCENE.unready("repeat behind the end, n = " + n, x -> x.repeat(Scene.ENDED, 2, n));
            DigestStack x = SCENE.made();
            x.finish(Scene.OPEN_CODE);
            CHECKS.unready("repeat behind the end of a code", () -> x.repeat(Scene.OPEN_CODE, 2, n));
            CHECKS.dueOut("OUT behind it", Reference.code(2, Scene.CODE_KEY, Scene.CODE_MESSAGE), x);
            SCENE.dueButStreamAndOut(Scene.OPEN_CODE, "behind repeat of an ended code", x);
        }
    }
}
