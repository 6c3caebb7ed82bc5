/** Promises 1 (the streams), 3 begin, 4 code, 5 update, 6 repeat, 7 finish, 8 copy and 9 about. */
public final class StreamTest {
    private static final Checks CHECKS = new Checks();
    private static final int[] WRONG = {-1, 4, Integer.MIN_VALUE, Integer.MAX_VALUE};
    private static final int[] EDGES = {0, 1, 54, 55, 56, 57, 63, 64, 65, 110, 111, 112, 113, 119, 120,
        127, 128, 129, 239, 240, 255, 256, 257, 599, 600};

    public static void main(String[] args) {
        newStreamsHaveNotBegun();
        digestsAsPublished();
        codesAsPublished();
        digestsOfAllEdges();
        codesOfAllKeySizes();
        beginAnew();
        beginThrows();
        codeUsesTheTapeUp();
        codeThrows();
        updateThrows();
        updateOfAnEmptyTape();
        repeatTakesTheLowestBits();
        repeatThrows();
        finishThrows();
        streamsGoOnByThemselves();
        copyGoesOnByItself();
        copyOfAnEndedStream();
        copyThrows();
        aboutTellsTheState();
        aboutThrows();
        CHECKS.end();
    }

    private static void newStreamsHaveNotBegun() {
        for (int stream = 0; stream < 4; stream++) {
            int s = stream;
            DigestStack x = new DigestStack();
            CHECKS.due("about(.., 0) of a new stream", DigestStack.NONE, () -> x.about(s, 0));
            for (int what = 1; what < 4; what++) {
                int w = what;
                CHECKS.due("about(.., " + w + ") of a new stream", 0, () -> x.about(s, w));
            }
            CHECKS.unready("update of a new stream", () -> x.update(s));
            CHECKS.unready("repeat of a new stream", () -> x.repeat(s, 0, 0));
            CHECKS.unready("finish of a new stream", () -> x.finish(s));
            CHECKS.unready("copy of a new stream", () -> x.copy(s, s));
        }
    }

    private static void digestsAsPublished() {
        String[] digests = {
            "23097d223405d8228642a477bda255b32aadbce4bda0b3f7e36c9da7",
            "ba7816bf8f01cfea414140de5dae2223b00361a396177a9cb410ff61f20015ad",
            "cb00753f45a35e8bb5a03d699ac65007272c32ab0eded1631a8b605a43ff5bed"
                + "8086072ba1e7cc2358baeca134c825a7",
            "ddaf35a193617abacc417349ae20413112e6fa4e89a97ea20a9eeee64b55d39a"
                + "2192992a274fc1a836ba3c23a3feebbd454d4423643ce80e2a9ac94fa54ca49f"};
        for (int kind = 0; kind < 4; kind++) {
            int k = kind;
            DigestStack x = new DigestStack();
            x.begin(3, k);
            Reference.feed(x, Reference.text("abc"));
            CHECKS.due("update by abc", 3L, () -> x.update(3));
            CHECKS.due("finish of abc", Reference.DIGESTS[k], () -> x.finish(3));
            CHECKS.dueOut("digest of abc", Reference.hex(digests[k]), x);
        }
    }

    private static void codesAsPublished() {
        String[] codes = {
            "a30e01098bc6dbbf45690f3a7e9e6d0f8bbea2a39e6148008fd05e44",
            "5bdcc146bf60754e6a042426089575c75a003f089d2739839dec58b964ec3843",
            "af45d2e376484031617f78d2b58a6b1b9c7ef464f5a01b47e42ec3736322445e"
                + "8e2240ca5e69e2c78b3239ecfab21649",
            "164b7a7bfcf819e2e395fbe73b56e0a387bd64222e831fd610270cd7ea250554"
                + "9758bf75c05a994a6d034f65f8f0e6fdcaeab1a34d4a6b4b636e070a38bce737"};
        for (int kind = 0; kind < 4; kind++) {
            int k = kind;
            DigestStack x = new DigestStack();
            Reference.feed(x, Reference.text("Jefe"));
            CHECKS.due("code by Jefe", 4, () -> x.code(2, k));
            Reference.feed(x, Reference.text("what do ya want for nothing?"));
            CHECKS.due("update of a code", 28L, () -> x.update(2));
            CHECKS.due("finish of a code", Reference.DIGESTS[k], () -> x.finish(2));
            CHECKS.dueOut("code by Jefe", Reference.hex(codes[k]), x);
        }
    }

    private static void digestsOfAllEdges() {
        for (int kind = 0; kind < 4; kind++) {
            int k = kind;
            for (int n : EDGES) {
                DigestStack x = new DigestStack();
                x.begin(0, k);
                Reference.feed(x, Reference.rising(3, n));
                CHECKS.due("update by " + n, (long) n, () -> x.update(0));
                CHECKS.due("about(0, 3) behind " + n, n % Reference.BLOCKS[k], () -> x.about(0, 3));
                x.finish(0);
                CHECKS.dueOut("kind " + k + ", size " + n, Reference.digest(k, Reference.rising(3, n)), x);
            }
        }
    }

    private static void codesOfAllKeySizes() {
        for (int kind = 0; kind < 4; kind++) {
            int k = kind;
            for (int n : EDGES) {
                DigestStack x = new DigestStack();
                byte[] key = Reference.rising(90, n);
                Reference.feed(x, key);
                CHECKS.due("code by a key of " + n, n, () -> x.code(1, k));
                byte[] message = Reference.rising(1, n % 140);
                Reference.feed(x, message);
                CHECKS.due("update of a code", (long) message.length, () -> x.update(1));
                CHECKS.due("about(1, 3) of a code", message.length % Reference.BLOCKS[k], () -> x.about(1, 3));
                x.finish(1);
                CHECKS.dueOut("kind " + k + ", key of " + n, Reference.code(k, key, message), x);
            }
        }
    }

    private static void beginAnew() {
        DigestStack x = new DigestStack();
        x.feed(3, 0x636261);
        x.code(0, 3);
        x.repeat(0, 5, 200);
        CHECKS.done("begin in the middle", () -> x.begin(0, 0));
        CHECKS.due("kind behind begin", 0, () -> x.about(0, 0));
        CHECKS.due("no code behind begin", 0, () -> x.about(0, 1));
        CHECKS.due("nothing came behind begin", 0L, () -> x.repeat(0, 0, 0));
        x.finish(0);
        CHECKS.dueOut("begin in the middle", Reference.digest(0, new byte[0]), x);
        CHECKS.done("begin behind the end", () -> x.begin(0, 2));
        CHECKS.due("not at the end behind begin", 0, () -> x.about(0, 2));
        x.feed(2, 0x0201);
        x.begin(0, 2);
        CHECKS.due("begin leaves the tape", 2L, () -> x.update(0));
        x.finish(0);
        CHECKS.dueOut("begin behind the end", Reference.digest(2, Reference.hex("0102")), x);
    }

    private static void beginThrows() {
        DigestStack x = new DigestStack();
        x.begin(0, 1);
        x.repeat(0, 7, 3);
        for (int wrong : WRONG) {
            CHECKS.outside("begin(" + wrong + ", 0)", () -> x.begin(wrong, 0));
            CHECKS.refused("begin(0, " + wrong + ")", () -> x.begin(0, wrong));
            CHECKS.outside("begin, both wrong", () -> x.begin(wrong, wrong));
            CHECKS.refused("begin(1, " + wrong + ")", () -> x.begin(1, wrong));
        }
        CHECKS.due("stream 1 has not begun", DigestStack.NONE, () -> x.about(1, 0));
        CHECKS.due("kind behind wrong begins", 1, () -> x.about(0, 0));
        CHECKS.due("length behind wrong begins", 3L, () -> x.repeat(0, 0, 0));
        x.finish(0);
        CHECKS.dueOut("stream behind wrong begins", Reference.digest(1, Reference.same(7, 3)), x);
    }

    private static void codeUsesTheTapeUp() {
        DigestStack x = new DigestStack();
        x.feed(5, 0x0504030201L);
        CHECKS.due("code", 5, () -> x.code(0, 2));
        CHECKS.due("code by an empty tape", 0, () -> x.code(1, 2));
        x.finish(0);
        CHECKS.dueOut("code of nothing", Reference.code(2, Reference.hex("0102030405"), new byte[0]), x);
        x.feed(1, 9);
        CHECKS.due("code behind the end", 1, () -> x.code(0, 1));
        CHECKS.due("kind behind code", 1, () -> x.about(0, 0));
        CHECKS.due("code counts as one", 1, () -> x.about(0, 1));
        CHECKS.due("not at the end behind code", 0, () -> x.about(0, 2));
        CHECKS.due("message behind code", 70L, () -> x.repeat(0, 8, 70));
        x.finish(0);
        CHECKS.dueOut("code anew", Reference.code(1, Reference.hex("09"), Reference.same(8, 70)), x);
        x.finish(1);
        CHECKS.dueOut("code by an empty key", Reference.code(2, new byte[0], new byte[0]), x);
    }

    private static void codeThrows() {
        DigestStack x = new DigestStack();
        x.begin(0, 0);
        x.repeat(0, 1, 10);
        x.feed(4, 0x04030201);
        for (int wrong : WRONG) {
            CHECKS.outside("code(" + wrong + ", 0)", () -> x.code(wrong, 0));
            CHECKS.refused("code(0, " + wrong + ")", () -> x.code(0, wrong));
            CHECKS.outside("code, both wrong", () -> x.code(wrong, wrong));
        }
        CHECKS.due("the tape stays, the stream too", 14L, () -> x.update(0));
        x.finish(0);
        CHECKS.dueOut("stream behind wrong codes", Reference.digest(0,
                Reference.join(Reference.same(1, 10), Reference.hex("01020304"))), x);
    }

    private static void updateThrows() {
        DigestStack x = new DigestStack();
        x.begin(1, 1);
        x.finish(1);
        x.feed(4, 0x04030201);
        for (int wrong : WRONG) {
            CHECKS.outside("update(" + wrong + ")", () -> x.update(wrong));
        }
        CHECKS.unready("update before the begin", () -> x.update(0));
        CHECKS.unready("update behind the end", () -> x.update(1));
        CHECKS.dueOut("OUT behind wrong updates", Reference.digest(1, new byte[0]), x);
        x.begin(0, 1);
        CHECKS.due("the tape stays with wrong updates", 4L, () -> x.update(0));
        x.finish(0);
        CHECKS.dueOut("tape behind wrong updates", Reference.digest(1, Reference.hex("01020304")), x);
    }

    private static void updateOfAnEmptyTape() {
        DigestStack x = new DigestStack();
        x.begin(0, 3);
        CHECKS.due("update by nothing", 0L, () -> x.update(0));
        x.feed(8, 0);
        CHECKS.due("update", 8L, () -> x.update(0));
        CHECKS.due("update by a used tape", 8L, () -> x.update(0));
        x.feed(1, 255);
        CHECKS.due("update by one more", 9L, () -> x.update(0));
        x.finish(0);
        CHECKS.dueOut("updates", Reference.digest(3, Reference.hex("0000000000000000ff")), x);
    }

    private static void repeatTakesTheLowestBits() {
        int[] values = {0, 97, 255, 256 + 3, -1, Integer.MIN_VALUE + 128};
        for (int kind = 0; kind < 4; kind++) {
            int k = kind;
            DigestStack x = new DigestStack();
            x.begin(0, k);
            byte[] message = {};
            for (int v : values) {
                message = Reference.join(message, Reference.same(v, 50));
                long length = message.length;
                CHECKS.due("repeat of " + v, length, () -> x.repeat(0, v, 50));
            }
            x.finish(0);
            CHECKS.dueOut("repeat, kind " + k, Reference.digest(k, message), x);
            x.begin(1, k);
            CHECKS.due("repeat 20000 times", 20000L, () -> x.repeat(1, 97, 20000));
            CHECKS.due("repeat 20000 times more", 40000L, () -> x.repeat(1, 97, 20000));
            CHECKS.due("loose octets", 40000 % Reference.BLOCKS[k], () -> x.about(1, 3));
            CHECKS.due("repeat 0 times", 40000L, () -> x.repeat(1, 97, 0));
            x.finish(1);
            CHECKS.dueOut("long repeat, kind " + k, Reference.digest(k, Reference.same(97, 40000)), x);
        }
    }

    private static void repeatThrows() {
        DigestStack x = new DigestStack();
        x.begin(0, 1);
        x.repeat(0, 1, 5);
        x.begin(2, 1);
        x.finish(2);
        x.feed(1, 3);
        for (int n : new int[] {-1, 20001, Integer.MIN_VALUE, Integer.MAX_VALUE}) {
            CHECKS.refused("repeat " + n + " times", () -> x.repeat(0, 2, n));
            CHECKS.unready("repeat before the begin", () -> x.repeat(1, 2, n));
            CHECKS.unready("repeat behind the end", () -> x.repeat(2, 2, n));
            CHECKS.outside("repeat of no stream", () -> x.repeat(4, 2, n));
        }
        for (int wrong : WRONG) {
            CHECKS.outside("repeat(" + wrong + ", ..)", () -> x.repeat(wrong, 2, 1));
        }
        CHECKS.unready("repeat before the begin, n is right", () -> x.repeat(1, 2, 1));
        CHECKS.unready("repeat behind the end, n is right", () -> x.repeat(2, 2, 1));
        CHECKS.due("repeat leaves the tape", 6L, () -> x.update(0));
        x.finish(0);
        CHECKS.dueOut("stream behind wrong repeats", Reference.digest(1, Reference.hex("010101010103")), x);
    }

    private static void finishThrows() {
        DigestStack x = new DigestStack();
        x.begin(0, 0);
        x.feed(1, 5);
        CHECKS.due("finish", 28, () -> x.finish(0));
        CHECKS.due("at the end", 1, () -> x.about(0, 2));
        CHECKS.unready("finish behind the end", () -> x.finish(0));
        CHECKS.unready("finish before the begin", () -> x.finish(1));
        for (int wrong : WRONG) {
            CHECKS.outside("finish(" + wrong + ")", () -> x.finish(wrong));
        }
        CHECKS.dueOut("OUT behind wrong finishes", Reference.digest(0, new byte[0]), x);
        CHECKS.due("finish leaves the tape", 1, () -> x.hold(0));
    }

    private static void streamsGoOnByThemselves() {
        DigestStack x = new DigestStack();
        for (int kind = 0; kind < 4; kind++) {
            x.feed(1, kind);
            if (kind % 2 == 0) {
                x.code(kind, kind);
            } else {
                x.begin(kind, kind);
                x.update(kind);
            }
        }
        for (int turn = 0; turn < 3; turn++) {
            for (int kind = 0; kind < 4; kind++) {
                x.repeat(kind, 10 * kind + turn, 45);
            }
        }
        for (int kind = 0; kind < 4; kind++) {
            byte[] message = Reference.join(Reference.same(10 * kind, 45),
                    Reference.same(10 * kind + 1, 45), Reference.same(10 * kind + 2, 45));
            byte[] first = {(byte) kind};
            x.finish(kind);
            CHECKS.dueOut("stream " + kind + " of four", kind % 2 == 0 ? Reference.code(kind, first, message)
                    : Reference.digest(kind, Reference.join(first, message)), x);
        }
    }

    private static void copyGoesOnByItself() {
        for (int kind = 0; kind < 4; kind++) {
            int k = kind;
            DigestStack x = new DigestStack();
            byte[] key = Reference.rising(1, 20);
            Reference.feed(x, key);
            x.code(0, k);
            x.repeat(0, 4, 150);
            x.begin(1, 3 - k);
            x.repeat(1, 9, 33);
            CHECKS.done("copy of a code", () -> x.copy(1, 0));
            CHECKS.done("copy to itself", () -> x.copy(0, 0));
            CHECKS.due("kind of a copy", k, () -> x.about(1, 0));
            CHECKS.due("copy is a code", 1, () -> x.about(1, 1));
            CHECKS.due("copy is not at its end", 0, () -> x.about(1, 2));
            CHECKS.due("loose octets of a copy", 150 % Reference.BLOCKS[k], () -> x.about(1, 3));
            CHECKS.due("the first goes on", 151L, () -> x.repeat(0, 5, 1));
            CHECKS.due("the copy goes on", 152L, () -> x.repeat(1, 6, 2));
            x.finish(0);
            CHECKS.dueOut("the first", Reference.code(k, key,
                    Reference.join(Reference.same(4, 150), Reference.same(5, 1))), x);
            CHECKS.due("the copy is not at its end", 0, () -> x.about(1, 2));
            x.finish(1);
            CHECKS.dueOut("the copy", Reference.code(k, key,
                    Reference.join(Reference.same(4, 150), Reference.same(6, 2))), x);
        }
    }

    private static void copyOfAnEndedStream() {
        DigestStack x = new DigestStack();
        x.begin(0, 1);
        x.repeat(0, 1, 70);
        x.finish(0);
        x.begin(3, 2);
        CHECKS.done("copy behind the end", () -> x.copy(3, 0));
        CHECKS.due("kind of the copy", 1, () -> x.about(3, 0));
        CHECKS.due("the copy is at its end", 1, () -> x.about(3, 2));
        CHECKS.due("loose octets at the end", 6, () -> x.about(3, 3));
        CHECKS.unready("update of the copy", () -> x.update(3));
        CHECKS.unready("finish of the copy", () -> x.finish(3));
    }

    private static void copyThrows() {
        DigestStack x = new DigestStack();
        x.begin(0, 1);
        x.repeat(0, 2, 9);
        for (int wrong : WRONG) {
            CHECKS.outside("copy(" + wrong + ", 0)", () -> x.copy(wrong, 0));
            CHECKS.outside("copy(0, " + wrong + ")", () -> x.copy(0, wrong));
            CHECKS.outside("copy to none from one not begun", () -> x.copy(wrong, 1));
            CHECKS.outside("copy to one not begun from none", () -> x.copy(1, wrong));
        }
        CHECKS.unready("copy from one not begun", () -> x.copy(0, 1));
        x.finish(0);
        CHECKS.dueOut("stream behind wrong copies", Reference.digest(1, Reference.same(2, 9)), x);
    }

    private static void aboutTellsTheState() {
        for (int kind = 0; kind < 4; kind++) {
            int k = kind;
            DigestStack x = new DigestStack();
            x.begin(0, k);
            x.code(1, k);
            for (int stream = 0; stream < 2; stream++) {
                int s = stream;
                x.repeat(s, 0, 130);
                CHECKS.due("kind", k, () -> x.about(s, 0));
                CHECKS.due("whether a code", s, () -> x.about(s, 1));
                CHECKS.due("whether at the end", 0, () -> x.about(s, 2));
                CHECKS.due("loose octets", 2, () -> x.about(s, 3));
                x.finish(s);
                CHECKS.due("kind at the end", k, () -> x.about(s, 0));
                CHECKS.due("whether a code at the end", s, () -> x.about(s, 1));
                CHECKS.due("whether at the end, at the end", 1, () -> x.about(s, 2));
                CHECKS.due("loose octets at the end", 2, () -> x.about(s, 3));
            }
        }
    }

    private static void aboutThrows() {
        DigestStack x = new DigestStack();
        x.begin(0, 1);
        for (int wrong : WRONG) {
            CHECKS.outside("about(" + wrong + ", 0)", () -> x.about(wrong, 0));
            CHECKS.outside("about(0, " + wrong + ")", () -> x.about(0, wrong));
            CHECKS.outside("about(1, " + wrong + ")", () -> x.about(1, wrong));
        }
    }
}
