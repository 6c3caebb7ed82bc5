/** Promise 12: draw; of the terms DRAWING. */
public final class Promise12DrawTest {
    private static final Checks CHECKS = new Checks("promise 12, draw");
    private static final Scene SCENE = new Scene(CHECKS);
    private static final byte[] EMPTY = {};

    public static void main(String[] args) {
        drawsFromRowsOfAllSizes();
        drawsWithoutSaltAsByZeros();
        outIsTheKeyAlone();
        leavesTheRest();
        refusesOtherKinds();
        CHECKS.end();
    }

    // "the CODE of the SECRET by the SALT as KEY": empty, a BLOCK, one more, full
    private static void drawsFromRowsOfAllSizes() {
        int[] sizes = {0, 1, 28, 63, 64, 65, 127, 128, 129, 599, 600};
        for (int kind = 0; kind < 4; kind++) {
            int k = kind;
            for (int i = 0; i < sizes.length; i++) {
                byte[] salt = Reference.rising(5, sizes[i]);
                for (int secretSize : new int[] {0, sizes[sizes.length - 1 - i], 600}) {
                    byte[] secret = Reference.rising(77, secretSize);
                    DigestStack x = Reference.holding(secret, salt, Reference.text("not used"));
                    CHECKS.due("draw(" + k + ")", Reference.DIGESTS[k], () -> x.draw(k));
                    CHECKS.dueOut("draw(" + k + "), salt of " + salt.length, Reference.draw(k, salt, secret), x);
                }
            }
        }
    }

    // "without one of octets 0, as many as a DIGEST has: which is the same"
    private static void drawsWithoutSaltAsByZeros() {
        byte[] secret = Reference.text("secret");
        for (int kind = 0; kind < 4; kind++) {
            int block = Reference.BLOCKS[kind];
            byte[] want = Reference.draw(kind, EMPTY, secret);
            for (int zeros : new int[] {0, 1, Reference.DIGESTS[kind], block}) {
                DigestStack x = Reference.holding(secret, new byte[zeros], EMPTY);
                x.draw(kind);
                CHECKS.dueOut("draw(" + kind + ") by " + zeros + " zeros", want, x);
            }
            DigestStack x = Reference.holding(secret, new byte[block + 1], EMPTY);
            x.draw(kind);
            long first = x.outs(0);
            CHECKS.due("draw by zeros of a block and one is another", false, () -> Reference.eight(want, 0) == first);
        }
    }

    // ": OUT. Answers how many octets."
    private static void outIsTheKeyAlone() {
        for (int kind = 0; kind < 4; kind++) {
            int k = kind;
            for (int before : new int[] {0, 27, 28, 64, 65, 16320}) {
                DigestStack x = new Scene(CHECKS, 0, before).made();
                CHECKS.due("draw(" + k + ")", Reference.DIGESTS[k], () -> x.draw(k));
                CHECKS.dueOut("draw(" + k + ") behind an OUT of " + before,
                        Reference.draw(k, Scene.SALT, Scene.KEY), x);
                CHECKS.due("out(64) behind a drawn key", DigestStack.NONE, () -> x.out(64));
                CHECKS.due("outs(64) behind a drawn key", 0L, () -> x.outs(64));
            }
        }
    }

    private static void leavesTheRest() {
        for (int kind = 0; kind < 4; kind++) {
            DigestStack x = SCENE.made();
            x.draw(kind);
            x.draw(kind);
            CHECKS.dueOut("draw once more", Reference.draw(kind, Scene.SALT, Scene.KEY), x);
            SCENE.dueButOut("behind draw(" + kind + ")", x);
        }
    }

    // "IllegalArgumentException: no such KIND."
    private static void refusesOtherKinds() {
        for (int kind : Reference.outside(0, 3)) {
            SCENE.refused("draw(" + kind + ")", x -> x.draw(kind));
            CHECKS.refused("draw(" + kind + ") of a new object", () -> new DigestStack().draw(kind));
        }
    }
}
