/** Promise 14: stretch; of the terms STRETCHING. */
public final class Promise14StretchTest {
    private static final Checks CHECKS = new Checks("promise 14, stretch");
    private static final Scene SCENE = new Scene(CHECKS);

    public static void main(String[] args) {
        stretchesToAllSizes();
        stretchesInAllTurns();
        stretchesRowsOfAllSizes();
        stretchesToTheMost();
        outIsTheStretchAlone();
        leavesTheRest();
        refusesOtherKinds();
        refusesOtherTurns();
        refusesOtherSizes();
        CHECKS.end();
    }

    private static void dueStretch(String what, int kind, int turns, int n, DigestStack x, byte[] want) {
        String call = what + ", stretch(" + kind + ", " + turns + ", " + n + ")";
        CHECKS.due(call, n, () -> x.stretch(kind, turns, n));
        CHECKS.dueOut(call, want, x);
    }

    // "parts 1, 2 .., cut": nothing, within a DIGEST, whole ones, one octet more; "n is not 0 .. 400": these are
    private static void stretchesToAllSizes() {
        for (int kind = 0; kind < 4; kind++) {
            int size = Reference.DIGESTS[kind];
            for (int n : new int[] {0, 1, size - 1, size, size + 1, 2 * size - 1, 2 * size, 2 * size + 1, 399, 400}) {
                dueStretch("sizes", kind, 3, n, SCENE.made(),
                        Reference.stretch(kind, Scene.KEY, Scene.SALT, 3, n));
            }
        }
    }

    // "the xor of U 1 .. U c"; "turns are not 1 .. 500": these are
    private static void stretchesInAllTurns() {
        for (int kind = 0; kind < 4; kind++) {
            for (int turns : new int[] {1, 2, 3, 255, 256, 257, 499, 500}) {
                dueStretch("turns", kind, turns, 70, SCENE.made(),
                        Reference.stretch(kind, Scene.KEY, Scene.SALT, turns, 70));
            }
        }
    }

    // "the CODE by the WORD as KEY of SALT and i (four octets, the highest first)"
    private static void stretchesRowsOfAllSizes() {
        int[] sizes = {0, 1, 51, 52, 60, 63, 64, 65, 107, 108, 124, 127, 128, 129, 599, 600};
        for (int kind = 0; kind < 4; kind++) {
            for (int i = 0; i < sizes.length; i++) {
                for (int other : new int[] {0, sizes[sizes.length - 1 - i], 600}) {
                    byte[] word = Reference.rising(8, sizes[i]);
                    byte[] salt = Reference.rising(40, other);
                    DigestStack x = Reference.holding(word, salt, Reference.text("not used"));
                    dueStretch("word of " + sizes[i] + ", salt of " + other, kind, 2, 130, x,
                            Reference.stretch(kind, word, salt, 2, 130));
                    DigestStack y = Reference.holding(salt, word, Reference.text("not used"));
                    dueStretch("word of " + other + ", salt of " + sizes[i], kind, 2, 130, y,
                            Reference.stretch(kind, salt, word, 2, 130));
                }
            }
        }
    }

    private static void stretchesToTheMost() {
        byte[] full = Reference.rising(1, 600);
        byte[] salt = Reference.rising(2, 600);
        for (int kind = 0; kind < 4; kind++) {
            dueStretch("the most", kind, 500, 400, Reference.holding(full, salt, full),
                    Reference.stretch(kind, full, salt, 500, 400));
        }
    }

    // ": OUT. Answers n": nothing of a longer OUT stays behind it
    private static void outIsTheStretchAlone() {
        for (int n : new int[] {0, 1, 40, 400}) {
            DigestStack x = new Scene(CHECKS, 0, 16320).made();
            dueStretch("behind a full OUT", 2, 1, n, x, Reference.stretch(2, Scene.KEY, Scene.SALT, 1, n));
            CHECKS.due("out(16319) behind a shorter OUT", DigestStack.NONE, () -> x.out(16319));
            CHECKS.due("outs behind a shorter OUT", 0L, () -> x.outs(n));
        }
        DigestStack x = SCENE.made();
        x.stretch(1, 500, 0);
        x.isOut();
        CHECKS.due("isOut of a stretch to 0", true, x::isOut);
        CHECKS.due("keep of a stretch to 0", 0, () -> x.keep(0));
    }

    private static void leavesTheRest() {
        for (int kind = 0; kind < 4; kind++) {
            DigestStack x = SCENE.made();
            x.stretch(kind, 5, 400);
            dueStretch("once more", kind, 4, 77, x, Reference.stretch(kind, Scene.KEY, Scene.SALT, 4, 77));
            SCENE.dueButOut("behind stretch of kind " + kind, x);
            DigestStack y = SCENE.made();
            y.stretch(kind, 1, 0);
            SCENE.dueButOut("behind stretch to 0", y);
        }
    }

    // "IllegalArgumentException: no such KIND"
    private static void refusesOtherKinds() {
        for (int kind : Reference.outside(0, 3)) {
            SCENE.refused("stretch(" + kind + ", 1, 1)", x -> x.stretch(kind, 1, 1));
            SCENE.refused("stretch(" + kind + ", 500, 400)", x -> x.stretch(kind, 500, 400));
            SCENE.refused("stretch(" + kind + ", 1, 0)", x -> x.stretch(kind, 1, 0));
            SCENE.refused("stretch(" + kind + ", 0, 401)", x -> x.stretch(kind, 0, 401));
        }
    }

    // "turns are not 1 .. 500": whatever n is
    private static void refusesOtherTurns() {
        for (int turns : Reference.outside(1, 500)) {
            for (int n : new int[] {0, 1, 400, -1, 401}) {
                SCENE.refused("stretch(1, " + turns + ", " + n + ")", x -> x.stretch(1, turns, n));
            }
            for (int kind = 0; kind < 4; kind++) {
                int k = kind;
                SCENE.refused("stretch(" + k + ", " + turns + ", 9)", x -> x.stretch(k, turns, 9));
            }
        }
    }

    // "or n is not 0 .. 400"
    private static void refusesOtherSizes() {
        for (int n : Reference.outside(0, 400)) {
            for (int kind = 0; kind < 4; kind++) {
                int k = kind;
                SCENE.refused("stretch(" + k + ", 1, " + n + ")", x -> x.stretch(k, 1, n));
                SCENE.refused("stretch(" + k + ", 500, " + n + ")", x -> x.stretch(k, 500, n));
            }
        }
    }
}
