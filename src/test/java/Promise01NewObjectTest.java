/** Promise 1: a new object. */
public final class Promise01NewObjectTest {
    private static final Checks CHECKS = new Checks("promise 1, a new object");
    private static final byte[] EMPTY = {};

    public static void main(String[] args) {
        noStreamHasBegun();
        outIsEmpty();
        registersAreEmpty();
        eachRegisterIsEmpty();
        tapeIsEmpty();
        nothingComesFromAnotherObject();
        CHECKS.end();
    }

    // "No STREAM has begun"
    private static void noStreamHasBegun() {
        for (int stream = 0; stream < 4; stream++) {
            int s = stream;
            DigestStack x = new DigestStack();
            CHECKS.due("about(" + s + ", 0)", DigestStack.NONE, () -> x.about(s, 0));
            for (int what = 1; what < 4; what++) {
                int w = what;
                CHECKS.due("about(" + s + ", " + w + ")", 0, () -> x.about(s, w));
            }
            CHECKS.unready("update(" + s + ")", () -> x.update(s));
            CHECKS.unready("repeat(" + s + ", 0, 0)", () -> x.repeat(s, 0, 0));
            CHECKS.unready("repeat(" + s + ", 0, 1)", () -> x.repeat(s, 0, 1));
            CHECKS.unready("finish(" + s + ")", () -> x.finish(s));
            for (int to = 0; to < 4; to++) {
                int t = to;
                CHECKS.unready("copy(" + t + ", " + s + ")", () -> x.copy(t, s));
            }
        }
    }

    // "OUT and the REGISTERS are empty": OUT
    private static void outIsEmpty() {
        DigestStack x = new DigestStack();
        for (int i : new int[] {0, 1, -1, 7, 8, 16319, Integer.MIN_VALUE, Integer.MAX_VALUE}) {
            CHECKS.due("out(" + i + ")", DigestStack.NONE, () -> x.out(i));
            CHECKS.due("outs(" + i + ")", 0L, () -> x.outs(i));
        }
        CHECKS.due("isOut, nothing on the tape", true, x::isOut);
        x.feed(1, 0);
        CHECKS.due("isOut, one octet on the tape", false, x::isOut);
        CHECKS.due("keep(0)", 0, () -> x.keep(0));
    }

    // "OUT and the REGISTERS are empty": all REGISTERS
    private static void registersAreEmpty() {
        for (int kind = 0; kind < 4; kind++) {
            int k = kind;
            int size = Reference.DIGESTS[k];
            DigestStack x = new DigestStack();
            CHECKS.due("draw(" + k + ")", size, () -> x.draw(k));
            CHECKS.dueOut("draw(" + k + ")", Reference.draw(k, EMPTY, EMPTY), x);
            CHECKS.due("spread(" + k + ", ..)", size + 1, () -> x.spread(k, size + 1));
            CHECKS.dueOut("spread(" + k + ", ..)", Reference.spread(k, EMPTY, EMPTY, size + 1), x);
            CHECKS.due("stretch(" + k + ", ..)", size + 1, () -> x.stretch(k, 2, size + 1));
            CHECKS.dueOut("stretch(" + k + ", ..)", Reference.stretch(k, EMPTY, EMPTY, 2, size + 1), x);
        }
    }

    // "OUT and the REGISTERS are empty": each while the others are not
    private static void eachRegisterIsEmpty() {
        byte[] row = Reference.rising(1, 30);
        for (int empty = 0; empty < 3; empty++) {
            DigestStack x = new DigestStack();
            byte[][] rows = {row, row, row};
            rows[empty] = EMPTY;
            for (int register = 0; register < 3; register++) {
                if (register != empty) {
                    Reference.hold(x, register, row);
                }
            }
            CHECKS.dueRegisters("register " + empty, rows[0], rows[1], rows[2], x);
        }
    }

    private static void tapeIsEmpty() {
        CHECKS.due("hold(0)", 0, () -> new DigestStack().hold(0));
        CHECKS.due("code(0, 0)", 0, () -> new DigestStack().code(0, 0));
        CHECKS.due("feed(1, 0)", 1, () -> new DigestStack().feed(1, 0));
        CHECKS.dueTape("a new tape", EMPTY, new DigestStack());
    }

    private static void nothingComesFromAnotherObject() {
        Scene scene = new Scene(CHECKS);
        DigestStack used = scene.made();
        DigestStack x = new DigestStack();
        CHECKS.dueOut("OUT behind another object", EMPTY, x);
        CHECKS.due("stream behind another object", DigestStack.NONE, () -> x.about(0, 0));
        CHECKS.dueTape("behind another object", EMPTY, x);
        CHECKS.dueRegisters("behind another object", EMPTY, EMPTY, EMPTY, x);
        scene.dueAsMade("an object before another", used);
    }
}
