/** Promises 15 out, 16 outs and 18 constant. */
public final class OutTest {
    private static final Checks CHECKS = new Checks();

    public static void main(String[] args) {
        outOfAnEmptyRow();
        outInsideAndOutside();
        outsInsideAndOutside();
        constants();
        CHECKS.end();
    }

    private static DigestStack withDigest() {
        DigestStack x = new DigestStack();
        x.begin(0, 0);
        x.finish(0);
        return x;
    }

    private static void outOfAnEmptyRow() {
        DigestStack x = new DigestStack();
        for (int i : new int[] {0, 1, -1, Integer.MIN_VALUE, Integer.MAX_VALUE}) {
            CHECKS.due("out(" + i + ") of an empty OUT", DigestStack.NONE, () -> x.out(i));
            CHECKS.due("outs(" + i + ") of an empty OUT", 0L, () -> x.outs(i));
        }
    }

    private static void outInsideAndOutside() {
        DigestStack x = withDigest();
        byte[] want = Reference.digest(0, new byte[0]);
        for (int i = 0; i < 28; i++) {
            int at = i;
            CHECKS.due("out(" + i + ")", want[i] & 255, () -> x.out(at));
        }
        for (int i : new int[] {-1, -8, 28, 29, 16319, 16320, Integer.MIN_VALUE, Integer.MAX_VALUE}) {
            CHECKS.due("out(" + i + ")", DigestStack.NONE, () -> x.out(i));
        }
        x.spread(3, 100);
        x.begin(1, 0);
        x.finish(1);
        CHECKS.due("out behind a shorter OUT", DigestStack.NONE, () -> x.out(28));
        CHECKS.due("outs behind a shorter OUT", 0L, () -> x.outs(28));
    }

    private static void outsInsideAndOutside() {
        DigestStack x = withDigest();
        byte[] want = Reference.digest(0, new byte[0]);
        for (int i = -10; i < 40; i++) {
            int at = i;
            CHECKS.due("outs(" + i + ")", Reference.eight(want, i), () -> x.outs(at));
        }
        for (int i = 0; i < 10; i++) {
            int below = Integer.MIN_VALUE + i;
            int above = Integer.MAX_VALUE - i;
            CHECKS.due("outs(" + below + ")", 0L, () -> x.outs(below));
            CHECKS.due("outs(" + above + ")", 0L, () -> x.outs(above));
        }
    }

    private static void constants() {
        DigestStack x = new DigestStack();
        CHECKS.due("the first constant as published", 0x428a2f98d728ae22L, () -> x.constant(0));
        CHECKS.due("the last constant as published", 0x6c44198c4a475817L, () -> x.constant(79));
        for (int i = 0; i < 80; i++) {
            int at = i;
            CHECKS.due("constant(" + i + ")", Reference.thirdRoot(i), () -> x.constant(at));
        }
        for (int i : new int[] {-1, 80, 81, Integer.MIN_VALUE, Integer.MAX_VALUE}) {
            CHECKS.due("constant(" + i + ")", 0L, () -> x.constant(i));
        }
    }
}
