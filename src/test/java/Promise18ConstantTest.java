/** Promise 18: constant. */
public final class Promise18ConstantTest {
    private static final Checks CHECKS = new Checks("promise 18, constant");

    public static void main(String[] args) {
        answersEveryConstant();
        answersZeroOutside();
        changesNothing();
        CHECKS.end();
    }

    // "CONSTANT k i of KIND 3": i from 0 to 79
    private static void answersEveryConstant() {
        DigestStack x = new DigestStack();
        CHECKS.due("the first as published", 0x428a2f98d728ae22L, () -> x.constant(0));
        CHECKS.due("the last as published", 0x6c44198c4a475817L, () -> x.constant(79));
        for (int i = 0; i < 80; i++) {
            int at = i;
            CHECKS.due("constant(" + i + ")", Reference.thirdRoot(i), () -> x.constant(at));
        }
    }

    // "0 without any"
    private static void answersZeroOutside() {
        DigestStack x = new DigestStack();
        for (int i : Reference.outside(0, 79)) {
            CHECKS.due("constant(" + i + ")", 0L, () -> x.constant(i));
        }
        for (int i : new int[] {-2, -79, -80, 81, 128, 160}) {
            CHECKS.due("constant(" + i + ")", 0L, () -> x.constant(i));
        }
    }

    private static void changesNothing() {
        Scene scene = new Scene(CHECKS);
        DigestStack x = scene.made();
        x.constant(0);
        x.constant(-1);
        x.constant(80);
        scene.dueAsMade("behind constant", x);
    }
}
