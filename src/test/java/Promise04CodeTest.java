import java.util.Arrays;

/** Promise 4: code; of the terms CODES by a KEY. */
public final class Promise04CodeTest {
    private static final Checks CHECKS = new Checks("promise 4, code");
    private static final Scene SCENE = new Scene(CHECKS);

    public static void main(String[] args) {
        takesKeysOfAllSizes();
        takesAKeyOfABlockAsItIs();
        takesTheDigestOfALongerKey();
        fillsAShorterKeyUpWithZeros();
        beginsEveryStreamAsEveryKind();
        usesTheTapeUp();
        leavesTheRest();
        refusesOtherStreams();
        refusesOtherKinds();
        streamGoesBeforeKind();
        CHECKS.end();
    }

    // "THE TAPE being the KEY. Answers how many octets it had."
    private static void takesKeysOfAllSizes() {
        int[] sizes = {0, 1, 27, 28, 31, 32, 47, 48, 63, 64, 65, 127, 128, 129, 255, 256, 257, 599, 600};
        for (int kind = 0; kind < 4; kind++) {
            for (int size : sizes) {
                byte[] key = Reference.rising(90, size);
                byte[] message = Reference.same('m', size % 140);
                dueCode("key of " + size, kind, key, message);
            }
        }
    }

    private static void dueCode(String what, int kind, byte[] key, byte[] message) {
        DigestStack x = new DigestStack();
        Reference.feed(x, key);
        CHECKS.due(what + ", code(1, " + kind + ")", key.length, () -> x.code(1, kind));
        CHECKS.due(what + ", message", (long) message.length, () -> x.repeat(1, 'm', message.length));
        CHECKS.due(what + ", finish", Reference.DIGESTS[kind], () -> x.finish(1));
        CHECKS.dueOut(what + ", kind " + kind, Reference.code(kind, key, message), x);
    }

    private static byte[] codeBy(byte[] key, int kind) {
        DigestStack x = new DigestStack();
        Reference.feed(x, key);
        x.code(0, kind);
        x.repeat(0, 1, 3);
        int size = x.finish(0);
        byte[] code = new byte[size];
        for (int i = 0; i < size; i++) {
            code[i] = (byte) x.out(i);
        }
        return code;
    }

    private static void dueSame(String what, boolean same, byte[] one, byte[] other, int kind) {
        CHECKS.due(what + ", kind " + kind, same, () -> Arrays.equals(codeBy(one, kind), codeBy(other, kind)));
    }

    // "if it has more octets than a BLOCK": a BLOCK's are not more
    private static void takesAKeyOfABlockAsItIs() {
        for (int kind = 0; kind < 4; kind++) {
            byte[] key = Reference.rising(3, Reference.BLOCKS[kind]);
            dueSame("a key of a block and its digest", false, key, Reference.digest(kind, key), kind);
            dueSame("keys of a block with another last octet", false, key,
                    Reference.join(Arrays.copyOf(key, key.length - 1), new byte[1]), kind);
        }
    }

    // "if it has more octets than a BLOCK, its DIGEST in its stead": one more
    private static void takesTheDigestOfALongerKey() {
        for (int kind = 0; kind < 4; kind++) {
            for (int more : new int[] {1, 2, Reference.BLOCKS[kind], 600 - Reference.BLOCKS[kind]}) {
                byte[] key = Reference.rising(3, Reference.BLOCKS[kind] + more);
                dueSame("a key of a block and " + more, true, key, Reference.digest(kind, key), kind);
            }
        }
    }

    // "then octets 0 up to a BLOCK"
    private static void fillsAShorterKeyUpWithZeros() {
        for (int kind = 0; kind < 4; kind++) {
            int block = Reference.BLOCKS[kind];
            for (int size : new int[] {0, 1, Reference.DIGESTS[kind], block - 1}) {
                byte[] key = Reference.same(200, size);
                dueSame("a key of " + size + " and zeros to a block", true, key, Arrays.copyOf(key, block), kind);
                dueSame("a key of " + size + " and zeros behind a block", false, key,
                        Arrays.copyOf(key, block + 1), kind);
            }
        }
    }

    // "A STREAM begins anew as a CODE of a KIND"
    private static void beginsEveryStreamAsEveryKind() {
        for (int stream = 0; stream < 4; stream++) {
            for (int kind = 0; kind < 4; kind++) {
                dueBegun("new stream", stream, kind, new DigestStack());
                DigestStack x = SCENE.made();
                x.isOut();
                dueBegun("anew", stream, kind, x);
            }
        }
        DigestStack x = SCENE.made();
        x.isOut();
        x.finish(Scene.OPEN_CODE);
        dueBegun("behind the end of a code", Scene.OPEN_CODE, 1, x);
    }

    private static void dueBegun(String what, int stream, int kind, DigestStack x) {
        String call = what + ", code(" + stream + ", " + kind + ")";
        Reference.feed(x, Reference.text("a key"));
        CHECKS.due(call, 5, () -> x.code(stream, kind));
        CHECKS.due(call + ", kind", kind, () -> x.about(stream, 0));
        CHECKS.due(call + ", is a code", 1, () -> x.about(stream, 1));
        CHECKS.due(call + ", is not at its end", 0, () -> x.about(stream, 2));
        CHECKS.due(call + ", nothing is loose", 0, () -> x.about(stream, 3));
        CHECKS.due(call + ", length", 0L, () -> x.repeat(stream, 0, 0));
        CHECKS.due(call + ", length of a message", 200L, () -> x.repeat(stream, 'x', 200));
        CHECKS.due(call + ", finish", Reference.DIGESTS[kind], () -> x.finish(stream));
        CHECKS.dueOut(call, Reference.code(kind, Reference.text("a key"), Reference.same('x', 200)), x);
    }

    // "what reads it uses it up"
    private static void usesTheTapeUp() {
        for (int size : new int[] {0, 1, 64, 65, 600}) {
            Scene scene = new Scene(CHECKS, size, 40);
            DigestStack x = scene.made();
            CHECKS.due("code by " + size, size, () -> x.code(0, 1));
            CHECKS.due("code by a used tape", 0, () -> x.code(0, 1));
            CHECKS.due("feed behind code", 1, () -> x.feed(1, 0x33));
            CHECKS.dueTape("behind code", Reference.hex("33"), x);
        }
    }

    private static void leavesTheRest() {
        for (int stream = 0; stream < 4; stream++) {
            int s = stream;
            DigestStack x = SCENE.made();
            CHECKS.due("code(" + s + ", 0)", 5, () -> x.code(s, 0));
            Reference.feed(x, SCENE.tape);
            SCENE.dueButStream(s, "behind code(" + s + ", 0)", x);
        }
    }

    // "IndexOutOfBoundsException: there is no such STREAM", "THE TAPE stays with both"
    private static void refusesOtherStreams() {
        for (int stream : Reference.outside(0, 3)) {
            for (int kind = 0; kind < 4; kind++) {
                int k = kind;
                SCENE.outside("code(" + stream + ", " + k + ")", x -> x.code(stream, k));
            }
            new Scene(CHECKS, 600, 40).outside("code(" + stream + ", 0) by 600", x -> x.code(stream, 0));
            new Scene(CHECKS, 0, 40).outside("code(" + stream + ", 0) by 0", x -> x.code(stream, 0));
        }
    }

    // "IllegalArgumentException: no such KIND (THE TAPE stays with both)"
    private static void refusesOtherKinds() {
        for (int kind : Reference.outside(0, 3)) {
            for (int stream = 0; stream < 4; stream++) {
                int s = stream;
                SCENE.refused("code(" + s + ", " + kind + ")", x -> x.code(s, kind));
            }
            new Scene(CHECKS, 600, 40).refused("code(0, " + kind + ") by 600", x -> x.code(0, kind));
            new Scene(CHECKS, 0, 40).refused("code(1, " + kind + ") by 0", x -> x.code(1, kind));
        }
    }

    // "the one named first when several would do"
    private static void streamGoesBeforeKind() {
        for (int stream : Reference.outside(0, 3)) {
            for (int kind : Reference.outside(0, 3)) {
                SCENE.outside("code(" + stream + ", " + kind + ")", x -> x.code(stream, kind));
            }
        }
    }
}
