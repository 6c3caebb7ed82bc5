import java.util.Arrays;

/** Promise 17: isOut. */
public final class Promise17IsOutTest {
    private static final Checks CHECKS = new Checks("promise 17, isOut");

    public static void main(String[] args) {
        knowsOutsOfAllSizes();
        knowsEveryOctet();
        knowsOneOctetMoreOrLess();
        knowsWhatIsEmpty();
        isFalseForMoreThanATape();
        usesTheTapeUp();
        leavesTheRest();
        CHECKS.end();
    }

    private static DigestStack withOut(int size, byte[] tape) {
        DigestStack x = new Scene(CHECKS, 0, size).made();
        Reference.feed(x, tape);
        return x;
    }

    private static byte[] outOf(int size) {
        return Reference.spread(3, Scene.KEY, Scene.INFO, size);
    }

    private static void dueIsOut(String what, boolean want, int size, byte[] tape) {
        DigestStack x = withOut(size, tape);
        CHECKS.due("isOut, " + what, want, x::isOut);
    }

    // "Whether OUT is what is on THE TAPE": up to a full tape
    private static void knowsOutsOfAllSizes() {
        for (int size : new int[] {1, 7, 8, 9, 28, 64, 255, 256, 257, 599, 600}) {
            dueIsOut("OUT of " + size, true, size, outOf(size));
        }
    }

    private static void knowsEveryOctet() {
        for (int i = 0; i < 64; i++) {
            for (int bit = 1; bit <= 128; bit <<= 1) {
                byte[] other = outOf(64);
                other[i] ^= (byte) bit;
                dueIsOut("another octet " + i, false, 64, other);
            }
        }
        byte[] other = outOf(600);
        other[599] ^= 1;
        dueIsOut("another last octet", false, 600, other);
    }

    private static void knowsOneOctetMoreOrLess() {
        for (int size : new int[] {1, 28, 64, 599, 600}) {
            dueIsOut("the last is missing", false, size, Arrays.copyOf(outOf(size), size - 1));
        }
        for (int size : new int[] {0, 1, 28, 64, 599}) {
            dueIsOut("a zero more", false, size, Arrays.copyOf(outOf(size), size + 1));
        }
        // OUT was longer before: what is left of it must not count.
        DigestStack x = new Scene(CHECKS, 0, 50).made();
        x.spread(3, 40);
        Reference.feed(x, outOf(50));
        CHECKS.due("isOut of what was OUT before", false, x::isOut);
    }

    private static void knowsWhatIsEmpty() {
        CHECKS.due("isOut of a new object", true, () -> new DigestStack().isOut());
        dueIsOut("both empty", true, 0, new byte[0]);
        dueIsOut("an empty OUT and an octet", false, 0, new byte[1]);
        dueIsOut("an empty tape", false, 1, new byte[0]);
        dueIsOut("an empty tape and a long OUT", false, 16320, new byte[0]);
    }

    private static void isFalseForMoreThanATape() {
        for (int size : new int[] {601, 602, 856, 16320}) {
            dueIsOut("the first 600 of " + size, false, size, Arrays.copyOf(outOf(size), 600));
        }
    }

    // "which is used up": whatever the answer was
    private static void usesTheTapeUp() {
        for (int size : new int[] {1, 40, 600}) {
            for (byte[] tape : new byte[][] {outOf(size), Reference.rising(1, 600), Reference.rising(1, 3)}) {
                DigestStack x = withOut(size, tape);
                CHECKS.due("isOut", Arrays.equals(tape, outOf(size)), x::isOut);
                CHECKS.due("isOut of a used tape", false, x::isOut);
                CHECKS.due("feed behind isOut", 1, () -> x.feed(1, 0x33));
                CHECKS.dueTape("behind isOut", Reference.hex("33"), x);
            }
        }
    }

    private static void leavesTheRest() {
        Scene scene = new Scene(CHECKS, 0, 40);
        for (byte[] tape : new byte[][] {scene.out, new byte[40], new byte[0]}) {
            DigestStack x = scene.made();
            Reference.feed(x, tape);
            CHECKS.due("isOut", tape == scene.out, x::isOut);
            scene.dueAsMade("behind isOut", x);
        }
    }
}
