/** Promises 12 draw, 13 spread and 14 stretch. */
public final class DrawTest {
    private static final Checks CHECKS = new Checks();
    private static final int[] NO_KINDS = {-1, 4, Integer.MIN_VALUE, Integer.MAX_VALUE};
    private static final byte[] EMPTY = {};

    public static void main(String[] args) {
        drawAndSpreadAsPublished();
        stretchAsPublished();
        drawOfManySizes();
        drawThrows();
        spreadOfManySizes();
        spreadToTheMost();
        spreadThrows();
        stretchOfManySizes();
        stretchToTheMost();
        stretchThrows();
        rowsStayAsTheyAre();
        CHECKS.end();
    }

    private static DigestStack holding(byte[] key, byte[] salt, byte[] info) {
        DigestStack x = new DigestStack();
        Reference.feed(x, key);
        x.hold(0);
        Reference.feed(x, salt);
        x.hold(1);
        Reference.feed(x, info);
        x.hold(2);
        return x;
    }

    private static void drawAndSpreadAsPublished() {
        DigestStack x = holding(Reference.same(11, 22), Reference.rising(0, 13), Reference.rising(0xf0, 10));
        CHECKS.due("draw", 32, () -> x.draw(1));
        CHECKS.dueOut("draw", Reference.hex("077709362c2e32df0ddc3f0dc47bba63"
                + "90b6c73bb50f9c3122ec844ad7c2b3e5"), x);
        x.keep(0);
        CHECKS.due("spread", 42, () -> x.spread(1, 42));
        CHECKS.dueOut("spread", Reference.hex("3cb25f25faacd57a90434f64d0362f2a"
                + "2d2d0a90cf1a5a4c5db02d56ecc4c5bf34007208d5b887185865"), x);
    }

    private static void stretchAsPublished() {
        DigestStack x = holding(Reference.text("password"), Reference.text("salt"), EMPTY);
        CHECKS.due("stretch in one turn", 32, () -> x.stretch(1, 1, 32));
        CHECKS.dueOut("stretch in one turn", Reference.hex(
                "120fb6cffcf8b32c43e7225256c4f837a86548c92ccc35480805987cb70be17b"), x);
        CHECKS.due("stretch in two turns", 32, () -> x.stretch(1, 2, 32));
        CHECKS.dueOut("stretch in two turns", Reference.hex(
                "ae4d0c95af6b46d32d0adff928f06dd02a303f8ef3c251dfd6e2d85a95474c43"), x);
    }

    private static void drawOfManySizes() {
        int[] sizes = {0, 1, 28, 63, 64, 65, 127, 128, 129, 600};
        for (int kind = 0; kind < 4; kind++) {
            int k = kind;
            for (int i = 0; i < sizes.length; i++) {
                byte[] salt = Reference.rising(5, sizes[i]);
                byte[] secret = Reference.rising(77, sizes[sizes.length - 1 - i]);
                DigestStack x = holding(secret, salt, Reference.text("not used"));
                CHECKS.due("draw(" + k + ")", Reference.DIGESTS[k], () -> x.draw(k));
                CHECKS.dueOut("draw, salt of " + salt.length, Reference.draw(k, salt, secret), x);
            }
        }
    }

    private static void drawThrows() {
        DigestStack x = holding(Reference.text("a"), Reference.text("b"), EMPTY);
        x.draw(0);
        for (int kind : NO_KINDS) {
            CHECKS.refused("draw(" + kind + ")", () -> x.draw(kind));
        }
        CHECKS.dueOut("OUT behind wrong draws", Reference.draw(0, Reference.text("b"), Reference.text("a")), x);
    }

    private static void spreadOfManySizes() {
        for (int kind = 0; kind < 4; kind++) {
            int k = kind;
            int size = Reference.DIGESTS[k];
            for (int n : new int[] {0, 1, size - 1, size, size + 1, 2 * size, 3 * size + 1}) {
                byte[] key = Reference.rising(8, 3 * n % 200);
                byte[] info = Reference.rising(40, 7 * n % 300);
                DigestStack x = holding(key, Reference.text("not used"), info);
                x.begin(0, 3);
                x.finish(0);
                CHECKS.due("spread(" + k + ", " + n + ")", n, () -> x.spread(k, n));
                CHECKS.dueOut("spread(" + k + ", " + n + ")", Reference.spread(k, key, info, n), x);
            }
        }
    }

    private static void spreadToTheMost() {
        byte[] key = Reference.text("a key");
        byte[] info = Reference.rising(0, 600);
        for (int kind = 0; kind < 4; kind++) {
            int k = kind;
            int most = 255 * Reference.DIGESTS[k];
            byte[] want = Reference.spread(k, key, info, most);
            DigestStack x = holding(key, EMPTY, info);
            CHECKS.due("spread(" + k + ", the most)", most, () -> x.spread(k, most));
            for (int more = most + 1; more <= 16320; more += 1 + (16319 - most) / 3) {
                int n = more;
                CHECKS.due("spread(" + k + ", " + n + ")", DigestStack.NONE, () -> x.spread(k, n));
            }
            // All of OUT would be more calls than an object is used for.
            for (int i = 0; i < most + 60; i += 61) {
                int at = i;
                CHECKS.due("outs(" + i + ") of the most", Reference.eight(want, i), () -> x.outs(at));
            }
            CHECKS.due("the last of the most", want[most - 1] & 255, () -> x.out(most - 1));
            CHECKS.due("behind the most", DigestStack.NONE, () -> x.out(most));
        }
    }

    private static void spreadThrows() {
        DigestStack x = holding(Reference.text("k"), EMPTY, EMPTY);
        x.spread(1, 20);
        for (int kind : NO_KINDS) {
            CHECKS.refused("spread(" + kind + ", 1)", () -> x.spread(kind, 1));
            CHECKS.refused("spread(" + kind + ", 16000)", () -> x.spread(kind, 16000));
        }
        for (int n : new int[] {-1, 16321, Integer.MIN_VALUE, Integer.MAX_VALUE}) {
            for (int kind = 0; kind < 4; kind++) {
                int k = kind;
                CHECKS.refused("spread(" + kind + ", " + n + ")", () -> x.spread(k, n));
            }
        }
        CHECKS.due("spread to too many", DigestStack.NONE, () -> x.spread(0, 16320));
        CHECKS.dueOut("OUT behind wrong spreads", Reference.spread(1, Reference.text("k"), EMPTY, 20), x);
    }

    private static void stretchOfManySizes() {
        for (int kind = 0; kind < 4; kind++) {
            int k = kind;
            int size = Reference.DIGESTS[k];
            for (int n : new int[] {0, 1, size - 1, size, size + 1, 2 * size, 3 * size + 1}) {
                int turns = 1 + n % 7;
                byte[] word = Reference.rising(8, 3 * n % 200);
                byte[] salt = Reference.rising(40, 7 * n % 300);
                DigestStack x = holding(word, salt, Reference.text("not used"));
                x.begin(0, 3);
                x.finish(0);
                CHECKS.due("stretch(" + k + ", " + turns + ", " + n + ")", n, () -> x.stretch(k, turns, n));
                CHECKS.dueOut("stretch(" + k + ", " + turns + ", " + n + ")",
                        Reference.stretch(k, word, salt, turns, n), x);
            }
        }
    }

    private static void stretchToTheMost() {
        byte[] word = Reference.rising(1, 600);
        byte[] salt = Reference.rising(2, 600);
        for (int kind = 0; kind < 4; kind++) {
            int k = kind;
            DigestStack x = holding(word, salt, EMPTY);
            CHECKS.due("stretch(" + k + ", 500, 400)", 400, () -> x.stretch(k, 500, 400));
            byte[] want = Reference.stretch(k, word, salt, 500, 400);
            for (int i = 0; i < 408; i += 4) {
                int at = i;
                CHECKS.due("outs(" + i + ") of the most", Reference.eight(want, i), () -> x.outs(at));
            }
            CHECKS.due("behind the most", DigestStack.NONE, () -> x.out(400));
        }
    }

    private static void stretchThrows() {
        DigestStack x = holding(Reference.text("w"), Reference.text("s"), EMPTY);
        x.stretch(1, 3, 20);
        for (int kind : NO_KINDS) {
            CHECKS.refused("stretch(" + kind + ", 1, 1)", () -> x.stretch(kind, 1, 1));
        }
        for (int turns : new int[] {0, -1, 501, Integer.MIN_VALUE, Integer.MAX_VALUE}) {
            CHECKS.refused("stretch(0, " + turns + ", 1)", () -> x.stretch(0, turns, 1));
            CHECKS.refused("stretch(0, " + turns + ", 0)", () -> x.stretch(0, turns, 0));
        }
        for (int n : new int[] {-1, 401, Integer.MIN_VALUE, Integer.MAX_VALUE}) {
            CHECKS.refused("stretch(3, 1, " + n + ")", () -> x.stretch(3, 1, n));
        }
        CHECKS.dueOut("OUT behind wrong stretches",
                Reference.stretch(1, Reference.text("w"), Reference.text("s"), 3, 20), x);
    }

    private static void rowsStayAsTheyAre() {
        byte[] key = Reference.rising(1, 140);
        byte[] salt = Reference.rising(2, 150);
        byte[] info = Reference.rising(3, 160);
        DigestStack x = holding(key, salt, info);
        x.begin(0, 2);
        x.repeat(0, 5, 10);
        x.feed(3, 0x030201);
        for (int turn = 0; turn < 2; turn++) {
            x.draw(1);
            CHECKS.dueOut("draw, turn " + turn, Reference.draw(1, salt, key), x);
            x.spread(0, 40);
            CHECKS.dueOut("spread, turn " + turn, Reference.spread(0, key, info, 40), x);
            x.stretch(2, 4, 60);
            CHECKS.dueOut("stretch, turn " + turn, Reference.stretch(2, key, salt, 4, 60), x);
        }
        CHECKS.due("tape and stream stay", 13L, () -> x.update(0));
        x.finish(0);
        CHECKS.dueOut("tape and stream stay", Reference.digest(2,
                Reference.join(Reference.same(5, 10), Reference.hex("010203"))), x);
    }
}
