/** Promise 13: spread; of the terms SPREADING. */
public final class Promise13SpreadTest {
    private static final Checks CHECKS = new Checks("promise 13, spread");
    private static final Scene SCENE = new Scene(CHECKS);

    public static void main(String[] args) {
        spreadsToAllSizes();
        spreadsRowsOfAllSizes();
        spreadsToTheMost();
        answersNoneForMore();
        outIsTheSpreadAlone();
        leavesTheRest();
        refusesOtherKinds();
        refusesOtherSizes();
        CHECKS.end();
    }

    private static void dueSpread(String what, int kind, int n, DigestStack x, byte[] want) {
        CHECKS.due(what + ", spread(" + kind + ", " + n + ")", n, () -> x.spread(kind, n));
        CHECKS.dueOut(what + ", spread(" + kind + ", " + n + ")", want, x);
    }

    // "T 1, T 2 .., cut": nothing, within a DIGEST, whole ones, one octet more
    private static void spreadsToAllSizes() {
        for (int kind = 0; kind < 4; kind++) {
            int size = Reference.DIGESTS[kind];
            for (int n : new int[] {0, 1, size - 1, size, size + 1, 2 * size - 1, 2 * size, 2 * size + 1, 600}) {
                dueSpread("sizes", kind, n, SCENE.made(), Reference.spread(kind, Scene.KEY, Scene.INFO, n));
            }
        }
    }

    // "the CODE by the KEY of T i-1 (T 0 is empty), INFO and the octet i"
    private static void spreadsRowsOfAllSizes() {
        int[] sizes = {0, 1, 55, 56, 63, 64, 65, 111, 112, 127, 128, 129, 599, 600};
        for (int kind = 0; kind < 4; kind++) {
            for (int i = 0; i < sizes.length; i++) {
                for (int other : new int[] {0, sizes[sizes.length - 1 - i], 600}) {
                    byte[] key = Reference.rising(8, sizes[i]);
                    byte[] info = Reference.rising(40, other);
                    DigestStack x = Reference.holding(key, Reference.text("not used"), info);
                    dueSpread("key of " + sizes[i] + ", info of " + other, kind, 150, x,
                            Reference.spread(kind, key, info, 150));
                    DigestStack y = Reference.holding(info, Reference.text("not used"), key);
                    dueSpread("key of " + other + ", info of " + sizes[i], kind, 150, y,
                            Reference.spread(kind, info, key, 150));
                }
            }
        }
    }

    // "at most 255 times those of a DIGEST": the last octet i is 255
    private static void spreadsToTheMost() {
        for (int kind = 0; kind < 4; kind++) {
            int most = 255 * Reference.DIGESTS[kind];
            byte[] want = Reference.spread(kind, Scene.KEY, Scene.INFO, most);
            dueSpread("the most", kind, most, SCENE.made(), want);
            DigestStack x = SCENE.made();
            x.spread(kind, most);
            for (int i = most - 100; i < most + 2; i++) {
                int at = i;
                CHECKS.due("outs(" + i + ") of the most", Reference.eight(want, i), () -> x.outs(at));
            }
            dueSpread("one less than the most", kind, most - 1, SCENE.made(),
                    Reference.spread(kind, Scene.KEY, Scene.INFO, most - 1));
        }
    }

    // "NONE when it is more than 255 times a DIGEST's": one more is; and nothing changes
    private static void answersNoneForMore() {
        for (int kind = 0; kind < 3; kind++) {
            int k = kind;
            int most = 255 * Reference.DIGESTS[k];
            for (int n : new int[] {most + 1, most + 2, most + 256, 16319, 16320}) {
                SCENE.none("spread(" + k + ", " + n + ")", x -> x.spread(k, n));
            }
        }
    }

    // ": OUT. Answers n": nothing of a longer OUT stays behind it
    private static void outIsTheSpreadAlone() {
        for (int n : new int[] {0, 1, 40, 600, 16319}) {
            DigestStack x = new Scene(CHECKS, 0, 16320).made();
            dueSpread("behind a full OUT", 3, n, x, Reference.spread(3, Scene.KEY, Scene.INFO, n));
            CHECKS.due("out(16319) behind a shorter OUT", DigestStack.NONE, () -> x.out(16319));
            CHECKS.due("outs behind a shorter OUT", 0L, () -> x.outs(n));
        }
        DigestStack x = SCENE.made();
        x.spread(1, 0);
        x.isOut();
        CHECKS.due("isOut of a spread to 0", true, x::isOut);
        CHECKS.due("keep of a spread to 0", 0, () -> x.keep(0));
    }

    private static void leavesTheRest() {
        for (int kind = 0; kind < 4; kind++) {
            DigestStack x = SCENE.made();
            x.spread(kind, 255 * Reference.DIGESTS[kind]);
            dueSpread("once more", kind, 77, x, Reference.spread(kind, Scene.KEY, Scene.INFO, 77));
            SCENE.dueButOut("behind spread of kind " + kind, x);
            DigestStack y = SCENE.made();
            y.spread(kind, 0);
            SCENE.dueButOut("behind spread to 0", y);
        }
    }

    // "IllegalArgumentException: no such KIND": with an n that is right, too large for any KIND, and wrong
    private static void refusesOtherKinds() {
        for (int kind : Reference.outside(0, 3)) {
            for (int n : new int[] {0, 1, 16320, -1, 16321}) {
                SCENE.refused("spread(" + kind + ", " + n + ")", x -> x.spread(kind, n));
            }
        }
    }

    // "or n is below 0 or above 16320": even where 255 times a DIGEST's are fewer
    private static void refusesOtherSizes() {
        for (int n : Reference.outside(0, 16320)) {
            for (int kind = 0; kind < 4; kind++) {
                int k = kind;
                SCENE.refused("spread(" + k + ", " + n + ")", x -> x.spread(k, n));
            }
        }
    }
}
