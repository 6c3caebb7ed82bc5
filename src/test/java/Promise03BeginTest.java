/** Promise 3: begin. */
public final class Promise03BeginTest {
    private static final Checks CHECKS = new Checks("promise 3, begin");
    private static final Scene SCENE = new Scene(CHECKS);

    public static void main(String[] args) {
        beginsEveryStreamAsEveryKind();
        beginsAnewFromEveryState();
        leavesTheRest();
        refusesOtherStreams();
        refusesOtherKinds();
        streamGoesBeforeKind();
        CHECKS.end();
    }

    // "A STREAM begins anew as a DIGEST of a KIND."
    private static void beginsEveryStreamAsEveryKind() {
        for (int stream = 0; stream < 4; stream++) {
            for (int kind = 0; kind < 4; kind++) {
                DigestStack x = new DigestStack();
                dueBegun("new stream", stream, kind, x);
                for (int other = 0; other < 4; other++) {
                    int o = other;
                    if (other != stream) {
                        CHECKS.due("another stream has not begun", DigestStack.NONE, () -> x.about(o, 0));
                    }
                }
            }
        }
    }

    // "anew": open, a code, at its end, or not begun
    private static void beginsAnewFromEveryState() {
        for (int stream = 0; stream < 4; stream++) {
            for (int kind = 0; kind < 4; kind++) {
                dueBegun("anew", stream, kind, SCENE.made());
            }
        }
        DigestStack x = SCENE.made();
        x.finish(Scene.OPEN_CODE);
        dueBegun("behind the end of a code", Scene.OPEN_CODE, 2, x);
    }

    private static void dueBegun(String what, int stream, int kind, DigestStack x) {
        String call = what + ", begin(" + stream + ", " + kind + ")";
        CHECKS.done(call, () -> x.begin(stream, kind));
        CHECKS.due(call + ", kind", kind, () -> x.about(stream, 0));
        for (int about = 1; about < 4; about++) {
            int a = about;
            CHECKS.due(call + ", about " + a, 0, () -> x.about(stream, a));
        }
        CHECKS.due(call + ", length", 0L, () -> x.repeat(stream, 0, 0));
        CHECKS.due(call + ", length of a message", 200L, () -> x.repeat(stream, 'x', 200));
        CHECKS.due(call + ", finish", Reference.DIGESTS[kind], () -> x.finish(stream));
        CHECKS.dueOut(call, Reference.digest(kind, Reference.same('x', 200)), x);
    }

    private static void leavesTheRest() {
        for (int stream = 0; stream < 4; stream++) {
            DigestStack x = SCENE.made();
            x.begin(stream, 0);
            SCENE.dueButStream(stream, "behind begin(" + stream + ", 0)", x);
        }
    }

    // "IndexOutOfBoundsException: there is no such STREAM."
    private static void refusesOtherStreams() {
        for (int stream : Reference.outside(0, 3)) {
            for (int kind = 0; kind < 4; kind++) {
                int k = kind;
                SCENE.outside("begin(" + stream + ", " + k + ")", x -> x.begin(stream, k));
            }
        }
    }

    // "IllegalArgumentException: no such KIND."
    private static void refusesOtherKinds() {
        for (int kind : Reference.outside(0, 3)) {
            for (int stream = 0; stream < 4; stream++) {
                int s = stream;
                SCENE.refused("begin(" + s + ", " + kind + ")", x -> x.begin(s, kind));
            }
        }
    }

    // "the one named first when several would do"
    private static void streamGoesBeforeKind() {
        for (int stream : Reference.outside(0, 3)) {
            for (int kind : Reference.outside(0, 3)) {
                SCENE.outside("begin(" + stream + ", " + kind + ")", x -> x.begin(stream, kind));
            }
        }
    }
}
