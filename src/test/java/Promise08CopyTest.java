/** Promise 8: copy. */
public final class Promise08CopyTest {
    private static final Checks CHECKS = new Checks("promise 8, copy");
    private static final Scene SCENE = new Scene(CHECKS);

    public static void main(String[] args) {
        takesAllThatCame();
        goesOnByItself();
        takesEveryPair();
        copiesToItself();
        copiesWhatIsAtItsEnd();
        copiesOverEveryState();
        leavesTheRest();
        refusesOtherStreams();
        refusesWhatHasNotBegun();
        streamGoesBeforeState();
        CHECKS.end();
    }

    // "STREAM to is as STREAM from, with all that came": within a BLOCK, at its end, with nothing
    private static void takesAllThatCame() {
        for (int kind = 0; kind < 4; kind++) {
            int k = kind;
            int block = Reference.BLOCKS[k];
            for (int size : new int[] {0, 1, block - 1, block, block + 1, 2 * block, 300}) {
                for (int keySize : new int[] {0, block, block + 1, 600}) {
                    byte[] key = Reference.rising(5, keySize);
                    DigestStack x = new DigestStack();
                    x.begin(1, 3 - k);
                    x.repeat(1, 'n', 33);
                    Reference.feed(x, key);
                    x.code(0, k);
                    x.repeat(0, 'm', size);
                    CHECKS.done("copy of a code", () -> x.copy(1, 0));
                    dueTaken(x, 1, new int[] {k, 1, 0, size % block}, size);
                    x.begin(0, 3 - k);
                    dueEnd("a code's copy, size " + size, 1,
                            Reference.code(k, key, Reference.same('m', size)), x);
                }
                DigestStack x = new DigestStack();
                x.code(1, 3 - k);
                x.repeat(1, 'n', 33);
                x.begin(0, k);
                x.repeat(0, 'm', size);
                CHECKS.done("copy of a digest", () -> x.copy(1, 0));
                dueTaken(x, 1, new int[] {k, 0, 0, size % block}, size);
                x.begin(0, 3 - k);
                dueEnd("a digest's copy, size " + size, 1, Reference.digest(k, Reference.same('m', size)), x);
            }
        }
    }

    private static void dueTaken(DigestStack x, int stream, int[] abouts, long length) {
        for (int about = 0; about < 4; about++) {
            int a = about;
            CHECKS.due("about(" + stream + ", " + a + ") of a copy", abouts[a], () -> x.about(stream, a));
        }
        CHECKS.due("length of a copy", length, () -> x.repeat(stream, 0, 0));
    }

    private static void dueEnd(String what, int stream, byte[] want, DigestStack x) {
        CHECKS.due(what + ", finish", want.length, () -> x.finish(stream));
        CHECKS.dueOut(what, want, x);
    }

    // "and goes on by itself"
    private static void goesOnByItself() {
        byte[] both = Reference.same('m', 150);
        for (int kind = 0; kind < 4; kind++) {
            byte[] key = Reference.rising(1, 20);
            DigestStack x = new DigestStack();
            Reference.feed(x, key);
            x.code(0, kind);
            x.repeat(0, 'm', 150);
            x.copy(2, 0);
            CHECKS.due("the first goes on", 151L, () -> x.repeat(0, 5, 1));
            CHECKS.due("the copy goes on", 152L, () -> x.repeat(2, 6, 2));
            CHECKS.due("the first goes on again", 351L, () -> x.repeat(0, 7, 200));
            dueEnd("the first", 0, Reference.code(kind, key, Reference.join(both,
                    Reference.same(5, 1), Reference.same(7, 200))), x);
            CHECKS.due("the copy is not at its end", 0, () -> x.about(2, 2));
            CHECKS.due("the copy's length", 152L, () -> x.repeat(2, 0, 0));
            dueEnd("the copy", 2, Reference.code(kind, key, Reference.join(both, Reference.same(6, 2))), x);
        }
    }

    private static void takesEveryPair() {
        for (int to = 0; to < 4; to++) {
            for (int from = 0; from < 4; from++) {
                int t = to;
                int f = from;
                DigestStack x = new DigestStack();
                x.begin(f, 2);
                x.repeat(f, 9, 9);
                CHECKS.done("copy(" + t + ", " + f + ")", () -> x.copy(t, f));
                dueEnd("copy(" + t + ", " + f + ")", t, Reference.digest(2, Reference.same(9, 9)), x);
                CHECKS.due("the first is at its end", t == f ? 1 : 0, () -> x.about(f, 2));
            }
        }
    }

    private static void copiesToItself() {
        DigestStack x = SCENE.made();
        for (int stream = 0; stream < 3; stream++) {
            int s = stream;
            CHECKS.done("copy(" + s + ", " + s + ")", () -> x.copy(s, s));
        }
        SCENE.dueAsMade("behind copies to themselves", x);
    }

    // "STREAM to is as STREAM from": at its end too
    private static void copiesWhatIsAtItsEnd() {
        for (int to = 0; to < 4; to++) {
            int t = to;
            DigestStack x = SCENE.made();
            CHECKS.done("copy behind the end", () -> x.copy(t, Scene.ENDED));
            CHECKS.due("kind of the copy", 3, () -> x.about(t, 0));
            CHECKS.due("the copy is no code", 0, () -> x.about(t, 1));
            CHECKS.due("the copy is at its end", 1, () -> x.about(t, 2));
            CHECKS.unready("update of the copy", () -> x.update(t));
            CHECKS.unready("repeat of the copy", () -> x.repeat(t, 0, 0));
            CHECKS.unready("finish of the copy", () -> x.finish(t));
            SCENE.dueButStream(t, "behind a copy of what is at its end", x);
        }
    }

    private static void copiesOverEveryState() {
        for (int to = 0; to < 4; to++) {
            DigestStack x = SCENE.made();
            x.copy(to, Scene.OPEN);
            dueTaken(x, to, new int[] {1, 0, 0, 6}, 70);
            dueEnd("copy over " + to, to, Reference.digest(1, Scene.OPEN_MESSAGE), x);
            DigestStack y = SCENE.made();
            y.copy(to, Scene.OPEN_CODE);
            dueTaken(y, to, new int[] {2, 1, 0, 2}, 130);
            dueEnd("copy of a code over " + to, to, Reference.code(2, Scene.CODE_KEY, Scene.CODE_MESSAGE), y);
        }
    }

    private static void leavesTheRest() {
        for (int to = 0; to < 4; to++) {
            for (int from = 0; from < 3; from++) {
                DigestStack x = SCENE.made();
                x.copy(to, from);
                SCENE.dueButStream(to, "behind copy(" + to + ", " + from + ")", x);
            }
        }
    }

    // "IndexOutOfBoundsException: there is no such STREAM.": on either side
    private static void refusesOtherStreams() {
        for (int wrong : Reference.outside(0, 3)) {
            for (int right = 0; right < 3; right++) {
                int r = right;
                SCENE.outside("copy(" + wrong + ", " + r + ")", x -> x.copy(wrong, r));
                SCENE.outside("copy(" + r + ", " + wrong + ")", x -> x.copy(r, wrong));
            }
            SCENE.outside("copy(" + wrong + ", " + wrong + ")", x -> x.copy(wrong, wrong));
        }
    }

    // "IllegalStateException: from has not begun."
    private static void refusesWhatHasNotBegun() {
        for (int to = 0; to < 4; to++) {
            int t = to;
            SCENE.unready("copy(" + t + ", not begun)", x -> x.copy(t, Scene.NOT_BEGUN));
        }
    }

    // "the one named first when several would do"
    private static void streamGoesBeforeState() {
        for (int wrong : Reference.outside(0, 3)) {
            SCENE.outside("copy(" + wrong + ", not begun)", x -> x.copy(wrong, Scene.NOT_BEGUN));
            SCENE.outside("copy(not begun, " + wrong + ")", x -> x.copy(Scene.NOT_BEGUN, wrong));
        }
    }
}
