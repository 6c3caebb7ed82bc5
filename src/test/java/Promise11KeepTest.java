/** Promise 11: keep. */
public final class Promise11KeepTest {
    private static final Checks CHECKS = new Checks("promise 11, keep");
    private static final byte[] EMPTY = {};
    private static final int[] SIZES = {0, 1, 63, 64, 65, 128, 129, 599, 600};

    public static void main(String[] args) {
        takesOutsOfAllSizes();
        takesOutOfANewObject();
        takesWhatEveryCallMade();
        goesOnByItself();
        leavesTheRest();
        answersNoneForMoreThanSixHundred();
        refusesOtherRegisters();
        registerGoesBeforeSize();
        CHECKS.end();
    }

    // "REGISTER which becomes OUT. Answers how many octets": up to 600, and nothing of what it held stays
    private static void takesOutsOfAllSizes() {
        for (int register = 0; register < 3; register++) {
            for (int size : SIZES) {
                int r = register;
                byte[] full = Reference.rising(77, 600);
                byte[][] rows = {full, full, full};
                DigestStack x = Reference.holding(full, full, full);
                x.spread(3, size);
                CHECKS.due("keep(" + r + ") of " + size, size, () -> x.keep(r));
                rows[r] = Reference.spread(3, full, full, size);
                CHECKS.dueOut("OUT behind keep(" + r + ")", rows[r], x);
                CHECKS.dueRegisters("keep(" + r + ") of " + size, rows[0], rows[1], rows[2], x);
            }
        }
    }

    private static void takesOutOfANewObject() {
        for (int register = 0; register < 3; register++) {
            int r = register;
            byte[] row = Reference.rising(5, 9);
            byte[][] rows = {EMPTY, EMPTY, EMPTY};
            DigestStack x = new DigestStack();
            for (int other = 0; other < 3; other++) {
                Reference.hold(x, other, row);
                rows[other] = other == r ? EMPTY : row;
            }
            CHECKS.due("keep(" + r + ") of an empty OUT", 0, () -> x.keep(r));
            CHECKS.dueRegisters("keep(" + r + ") of an empty OUT", rows[0], rows[1], rows[2], x);
        }
    }

    private static void takesWhatEveryCallMade() {
        DigestStack x = new DigestStack();
        x.begin(0, 3);
        x.finish(0);
        byte[] digest = Reference.digest(3, EMPTY);
        CHECKS.due("keep of a digest", 64, () -> x.keep(0));
        x.draw(2);
        byte[] drawn = Reference.draw(2, EMPTY, digest);
        CHECKS.due("keep of a drawn key", 48, () -> x.keep(1));
        x.stretch(1, 2, 400);
        byte[] stretched = Reference.stretch(1, digest, drawn, 2, 400);
        CHECKS.due("keep of a stretched word", 400, () -> x.keep(2));
        CHECKS.due("keep once more", 400, () -> x.keep(2));
        CHECKS.dueRegisters("kept rows", digest, drawn, stretched, x);
    }

    private static void goesOnByItself() {
        DigestStack x = new DigestStack();
        x.begin(0, 0);
        x.finish(0);
        x.keep(0);
        x.keep(1);
        x.begin(0, 3);
        x.finish(0);
        CHECKS.dueRegisters("OUT became another", Reference.digest(0, EMPTY), Reference.digest(0, EMPTY), EMPTY, x);
    }

    private static void leavesTheRest() {
        byte[][] held = {Scene.KEY, Scene.SALT, Scene.INFO};
        Scene scene = new Scene(CHECKS, 0, 600);
        for (int register = 0; register < 3; register++) {
            DigestStack x = scene.made();
            x.keep(register);
            // What it held is put back, so that all can be asked for.
            Reference.hold(x, register, held[register]);
            scene.dueAsMade("behind keep(" + register + ")", x);
        }
        Scene withTape = new Scene(CHECKS, 600, 33);
        DigestStack x = withTape.made();
        CHECKS.due("keep before a full tape", 33, () -> x.keep(2));
        CHECKS.dueTape("keep leaves the tape", withTape.tape, x);
    }

    // "NONE when they are more than 600": 601 are; and nothing changes
    private static void answersNoneForMoreThanSixHundred() {
        for (int size : new int[] {601, 602, 856, 16320}) {
            for (int register = 0; register < 3; register++) {
                int r = register;
                new Scene(CHECKS, 5, size).none("keep(" + r + ") of " + size, x -> x.keep(r));
            }
        }
    }

    // "IndexOutOfBoundsException: there is no such REGISTER."
    private static void refusesOtherRegisters() {
        for (int size : new int[] {0, 40, 600}) {
            Scene scene = new Scene(CHECKS, 5, size);
            for (int register : Reference.outside(0, 2)) {
                scene.outside("keep(" + register + ") of " + size, x -> x.keep(register));
            }
        }
    }

    private static void registerGoesBeforeSize() {
        for (int size : new int[] {601, 16320}) {
            Scene scene = new Scene(CHECKS, 5, size);
            for (int register : Reference.outside(0, 2)) {
                scene.outside("keep(" + register + ") of " + size, x -> x.keep(register));
            }
        }
    }
}
