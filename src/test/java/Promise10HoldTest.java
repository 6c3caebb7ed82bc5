/** Promise 10: hold. */
public final class Promise10HoldTest {
    private static final Checks CHECKS = new Checks("promise 10, hold");
    private static final Scene SCENE = new Scene(CHECKS);
    private static final int[] SIZES = {0, 1, 63, 64, 65, 128, 129, 599, 600};

    public static void main(String[] args) {
        takesTapesOfAllSizes();
        takesTheTapeAlone();
        usesTheTapeUp();
        leavesTheRest();
        refusesOtherRegisters();
        CHECKS.end();
    }

    // "REGISTER which becomes THE TAPE. Answers how many octets."
    private static void takesTapesOfAllSizes() {
        for (int register = 0; register < 3; register++) {
            for (int size : SIZES) {
                dueHeld(register, size, new DigestStack(), new byte[3][0]);
            }
        }
    }

    // "becomes": nothing of what a REGISTER held stays
    private static void takesTheTapeAlone() {
        for (int register = 0; register < 3; register++) {
            for (int size : SIZES) {
                byte[] full = Reference.rising(77, 600);
                dueHeld(register, size, Reference.holding(full, full, full), new byte[][] {full, full, full});
            }
        }
    }

    private static void dueHeld(int register, int size, DigestStack x, byte[][] rows) {
        byte[] row = Reference.rising(31, size);
        rows[register] = row;
        Reference.feed(x, row);
        CHECKS.due("hold(" + register + ") of " + size, size, () -> x.hold(register));
        CHECKS.dueRegisters("hold(" + register + ") of " + size, rows[0], rows[1], rows[2], x);
    }

    // "what reads it uses it up"
    private static void usesTheTapeUp() {
        for (int register = 0; register < 3; register++) {
            for (int size : SIZES) {
                int r = register;
                DigestStack x = new Scene(CHECKS, size, 40).made();
                CHECKS.due("hold of " + size, size, () -> x.hold(r));
                CHECKS.due("feed behind hold", 1, () -> x.feed(1, 0x33));
                CHECKS.dueTape("behind hold", Reference.hex("33"), x);
                CHECKS.due("hold of a used tape", 0, () -> x.hold(r));
            }
        }
    }

    private static void leavesTheRest() {
        for (int register = 0; register < 3; register++) {
            byte[][] held = {Scene.KEY, Scene.SALT, Scene.INFO};
            int r = register;
            DigestStack x = SCENE.made();
            CHECKS.due("hold(" + r + ")", 5, () -> x.hold(r));
            // What it held is put back, so that all can be asked for.
            Reference.hold(x, r, held[r]);
            Reference.feed(x, SCENE.tape);
            SCENE.dueAsMade("behind hold(" + r + ")", x);
        }
    }

    // "IndexOutOfBoundsException: there is no such REGISTER (THE TAPE stays)."
    private static void refusesOtherRegisters() {
        for (int size : new int[] {0, 5, 600}) {
            Scene scene = new Scene(CHECKS, size, 40);
            for (int register : Reference.outside(0, 2)) {
                scene.outside("hold(" + register + ")", x -> x.hold(register));
            }
        }
    }
}
