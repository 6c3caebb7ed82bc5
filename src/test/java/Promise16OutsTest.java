/** Promise 16: outs. */
public final class Promise16OutsTest {
    private static final Checks CHECKS = new Checks("promise 16, outs");

    public static void main(String[] args) {
        answersFromEveryPlace();
        answersAtBothEnds();
        answersZeroForAnEmptyOut();
        answersZeroBehindAShorterOut();
        answersOfTheLongest();
        doesNotWrapAround();
        changesNothing();
        CHECKS.end();
    }

    // "Eight octets of OUT from i on as a long, the highest octet first"
    private static void answersFromEveryPlace() {
        byte[] want = Reference.spread(3, Scene.KEY, Scene.INFO, 300);
        DigestStack x = new Scene(CHECKS, 0, 300).made();
        for (int i = -20; i < 320; i++) {
            int at = i;
            CHECKS.due("outs(" + i + ")", Reference.eight(want, i), () -> x.outs(at));
        }
    }

    // "0 for those that are not there": behind the last, and before the first
    private static void answersAtBothEnds() {
        DigestStack x = new DigestStack();
        x.begin(0, 1);
        x.finish(0);
        // The digest of nothing: e3b0c44298fc1c14 .. a495991b7852b855.
        CHECKS.due("outs(0)", 0xe3b0c44298fc1c14L, () -> x.outs(0));
        CHECKS.due("outs(24)", 0xa495991b7852b855L, () -> x.outs(24));
        CHECKS.due("outs(25)", 0x95991b7852b85500L, () -> x.outs(25));
        CHECKS.due("outs(31)", 0x5500000000000000L, () -> x.outs(31));
        CHECKS.due("outs(32)", 0L, () -> x.outs(32));
        CHECKS.due("outs(33)", 0L, () -> x.outs(33));
        CHECKS.due("outs(-1)", 0x00e3b0c44298fc1cL, () -> x.outs(-1));
        CHECKS.due("outs(-7)", 0x00000000000000e3L, () -> x.outs(-7));
        CHECKS.due("outs(-8)", 0L, () -> x.outs(-8));
        CHECKS.due("outs(-9)", 0L, () -> x.outs(-9));
    }

    private static void answersZeroForAnEmptyOut() {
        DigestStack emptied = new Scene(CHECKS, 0, 40).made();
        emptied.spread(1, 0);
        for (int i : new int[] {0, 1, 39, -1, -7, Integer.MIN_VALUE, Integer.MAX_VALUE}) {
            CHECKS.due("outs(" + i + ") of a new OUT", 0L, () -> new DigestStack().outs(i));
            CHECKS.due("outs(" + i + ") of an emptied OUT", 0L, () -> emptied.outs(i));
        }
    }

    private static void answersZeroBehindAShorterOut() {
        byte[] want = Reference.digest(0, new byte[0]);
        DigestStack x = new Scene(CHECKS, 0, 100).made();
        x.begin(0, 0);
        x.finish(0);
        for (int i = 19; i < 100; i++) {
            int at = i;
            CHECKS.due("outs(" + i + ") behind a shorter OUT", Reference.eight(want, i), () -> x.outs(at));
        }
    }

    private static void answersOfTheLongest() {
        byte[] want = Reference.spread(3, Scene.KEY, Scene.INFO, 16320);
        DigestStack x = new Scene(CHECKS, 0, 16320).made();
        for (int i = 16300; i < 16330; i++) {
            int at = i;
            CHECKS.due("outs(" + i + ") of the longest", Reference.eight(want, i), () -> x.outs(at));
        }
    }

    private static void doesNotWrapAround() {
        DigestStack x = new Scene(CHECKS, 0, 16320).made();
        for (int i = 0; i < 20; i++) {
            int below = Integer.MIN_VALUE + i;
            int above = Integer.MAX_VALUE - i;
            CHECKS.due("outs(" + below + ")", 0L, () -> x.outs(below));
            CHECKS.due("outs(" + above + ")", 0L, () -> x.outs(above));
        }
        for (int i : new int[] {65536, 1 << 24, -65536, -(1 << 24), -16320}) {
            CHECKS.due("outs(" + i + ")", 0L, () -> x.outs(i));
        }
    }

    private static void changesNothing() {
        Scene scene = new Scene(CHECKS);
        DigestStack x = scene.made();
        x.outs(0);
        x.outs(35);
        x.outs(40);
        x.outs(-3);
        scene.dueAsMade("behind outs", x);
    }
}
