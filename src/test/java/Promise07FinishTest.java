/** Promise 7: finish; of the terms how a message is filled up to whole BLOCKS. */
public final class Promise07FinishTest {
    private static final Checks CHECKS = new Checks("promise 7, finish");
    private static final Scene SCENE = new Scene(CHECKS);

    public static void main(String[] args) {
        digestsOfAllSizes();
        codesOfAllSizes();
        outIsTheDigestAlone();
        streamIsAtItsEnd();
        takesEveryStream();
        leavesTheRest();
        refusesOtherStreams();
        refusesWhatHasNotBegun();
        refusesWhatIsAtItsEnd();
        CHECKS.end();
    }

    // "octets 0, as few as can be, so that 8 (for KINDS 2 and 3: 16) are left", with all sizes to over two BLOCKS
    private static void digestsOfAllSizes() {
        for (int kind = 0; kind < 4; kind++) {
            int k = kind;
            for (int size = 0; size <= 260; size++) {
                DigestStack x = new DigestStack();
                x.begin(0, k);
                Reference.feed(x, Reference.rising(3, size));
                x.update(0);
                CHECKS.due("finish, kind " + k, Reference.DIGESTS[k], () -> x.finish(0));
                CHECKS.dueOut("kind " + k + ", size " + size, Reference.digest(k, Reference.rising(3, size)), x);
            }
        }
    }

    private static void codesOfAllSizes() {
        byte[] key = Reference.text("a key");
        for (int kind = 0; kind < 4; kind++) {
            int k = kind;
            for (int size = 0; size <= 260; size++) {
                DigestStack x = new DigestStack();
                Reference.feed(x, key);
                x.code(0, k);
                Reference.feed(x, Reference.rising(3, size));
                x.update(0);
                CHECKS.due("finish of a code, kind " + k, Reference.DIGESTS[k], () -> x.finish(0));
                CHECKS.dueOut("code, kind " + k + ", size " + size,
                        Reference.code(k, key, Reference.rising(3, size)), x);
            }
        }
    }

    // "its DIGEST, or CODE, is OUT": nothing of a longer OUT stays behind it
    private static void outIsTheDigestAlone() {
        for (int kind = 0; kind < 4; kind++) {
            int k = kind;
            for (int before : new int[] {0, 27, 28, 29, 63, 64, 65, 16320}) {
                DigestStack x = new Scene(CHECKS, 0, before).made();
                x.begin(0, k);
                x.finish(0);
                CHECKS.dueOut("finish behind an OUT of " + before, Reference.digest(k, new byte[0]), x);
                for (int i : new int[] {Reference.DIGESTS[k] + 1, 64, 65, 16319}) {
                    CHECKS.due("out(" + i + ") behind a digest", DigestStack.NONE, () -> x.out(i));
                    CHECKS.due("outs(" + i + ") behind a digest", 0L, () -> x.outs(i));
                }
            }
        }
    }

    // "A STREAM is at its end"
    private static void streamIsAtItsEnd() {
        DigestStack x = SCENE.made();
        for (int stream = 0; stream < 2; stream++) {
            int s = stream;
            CHECKS.due("before the end", 0, () -> x.about(s, 2));
            CHECKS.due("finish(" + s + ")", s == 0 ? 32 : 48, () -> x.finish(s));
            CHECKS.due("at the end", 1, () -> x.about(s, 2));
            CHECKS.due("kind at the end", 1 + s, () -> x.about(s, 0));
            CHECKS.due("whether a code at the end", s, () -> x.about(s, 1));
        }
        CHECKS.done("begin behind the end", () -> x.begin(0, 1));
        CHECKS.due("finish of what began anew", 32, () -> x.finish(0));
        CHECKS.dueOut("finish of what began anew", Reference.digest(1, new byte[0]), x);
    }

    private static void takesEveryStream() {
        DigestStack x = new DigestStack();
        for (int stream = 0; stream < 4; stream++) {
            x.feed(1, stream);
            x.code(stream, 3 - stream);
            x.repeat(stream, stream, 45);
        }
        for (int stream = 0; stream < 4; stream++) {
            int s = stream;
            CHECKS.due("finish(" + s + ")", Reference.DIGESTS[3 - s], () -> x.finish(s));
            CHECKS.dueOut("finish(" + s + ")",
                    Reference.code(3 - s, Reference.same(s, 1), Reference.same(s, 45)), x);
        }
    }

    private static void leavesTheRest() {
        for (int stream = 0; stream < 2; stream++) {
            DigestStack x = SCENE.made();
            x.finish(stream);
            SCENE.dueButStreamAndOut(stream, "behind finish(" + stream + ")", x);
        }
    }

    // "IndexOutOfBoundsException: there is no such STREAM."
    private static void refusesOtherStreams() {
        for (int stream : Reference.outside(0, 3)) {
            SCENE.outside("finish(" + stream + ")", x -> x.finish(stream));
        }
    }

    // "IllegalStateException: it has not begun"
    private static void refusesWhatHasNotBegun() {
        SCENE.unready("finish before the begin", x -> x.finish(Scene.NOT_BEGUN));
    }

    // "or is at its end"
    private static void refusesWhatIsAtItsEnd() {
        SCENE.unready("finish behind the end", x -> x.finish(Scene.ENDED));
        DigestStack x = SCENE.made();
        x.finish(Scene.OPEN_CODE);
        CHECKS.unready("finish behind the end of a code", () -> x.finish(Scene.OPEN_CODE));
        CHECKS.dueOut("OUT behind it", Reference.code(2, Scene.CODE_KEY, Scene.CODE_MESSAGE), x);
        SCENE.dueButStreamAndOut(Scene.OPEN_CODE, "behind finish of an ended code", x);
        DigestStack y = SCENE.made();
        y.finish(Scene.OPEN);
        y.finish(Scene.OPEN_CODE);
        CHECKS.unready("finish behind the end, OUT being another's", () -> y.finish(Scene.OPEN));
        CHECKS.dueOut("OUT behind it", Reference.code(2, Scene.CODE_KEY, Scene.CODE_MESSAGE), y);
    }
}
