/** Promise 15: out. */
public final class Promise15OutTest {
    private static final Checks CHECKS = new Checks("promise 15, out");

    public static void main(String[] args) {
        answersEveryOctet();
        answersNoneOutside();
        answersNoneForAnEmptyOut();
        answersNoneBehindAShorterOut();
        answersTheLastOfTheLongest();
        changesNothing();
        CHECKS.end();
    }

    // "Octet i of OUT, 0 .. 255": no octet is below 0
    private static void answersEveryOctet() {
        byte[] want = Reference.spread(3, Scene.KEY, Scene.INFO, 400);
        DigestStack x = new Scene(CHECKS, 0, 400).made();
        boolean[] seen = new boolean[2];
        for (int i = 0; i < 400; i++) {
            int at = i;
            seen[want[i] < 0 ? 1 : 0] = true;
            CHECKS.due("out(" + i + ")", want[i] & 255, () -> x.out(at));
        }
        CHECKS.due("octets below and above 128 were there", true, () -> seen[0] && seen[1]);
        DigestStack y = new DigestStack();
        y.stretch(0, 1, 400);
        byte[] stretched = Reference.stretch(0, new byte[0], new byte[0], 1, 400);
        for (int i = 0; i < 400; i++) {
            int at = i;
            CHECKS.due("out(" + i + ") of a stretch", stretched[i] & 255, () -> y.out(at));
        }
    }

    // "NONE when there is none": the first and last that are, and those beside them
    private static void answersNoneOutside() {
        for (int kind = 0; kind < 4; kind++) {
            int size = Reference.DIGESTS[kind];
            byte[] want = Reference.digest(kind, new byte[0]);
            DigestStack x = new DigestStack();
            x.begin(0, kind);
            x.finish(0);
            CHECKS.due("out(0)", want[0] & 255, () -> x.out(0));
            CHECKS.due("out of the last", want[size - 1] & 255, () -> x.out(size - 1));
            for (int i : new int[] {-1, -2, -size, -256, size, size + 1, 256, 16319, 16320, 65536,
                Integer.MIN_VALUE, Integer.MIN_VALUE + 1, Integer.MAX_VALUE, Integer.MAX_VALUE - 1}) {
                CHECKS.due("out(" + i + ")", DigestStack.NONE, () -> x.out(i));
            }
        }
    }

    private static void answersNoneForAnEmptyOut() {
        DigestStack emptied = new Scene(CHECKS, 0, 40).made();
        emptied.spread(1, 0);
        for (int i : new int[] {0, 1, 39, -1, Integer.MIN_VALUE, Integer.MAX_VALUE}) {
            CHECKS.due("out(" + i + ") of a new OUT", DigestStack.NONE, () -> new DigestStack().out(i));
            CHECKS.due("out(" + i + ") of an emptied OUT", DigestStack.NONE, () -> emptied.out(i));
        }
    }

    private static void answersNoneBehindAShorterOut() {
        DigestStack x = new Scene(CHECKS, 0, 100).made();
        CHECKS.due("out(99)", Reference.spread(3, Scene.KEY, Scene.INFO, 100)[99] & 255, () -> x.out(99));
        x.begin(0, 0);
        x.finish(0);
        for (int i : new int[] {28, 29, 99, 100}) {
            CHECKS.due("out(" + i + ") behind a shorter OUT", DigestStack.NONE, () -> x.out(i));
        }
    }

    private static void answersTheLastOfTheLongest() {
        byte[] want = Reference.spread(3, Scene.KEY, Scene.INFO, 16320);
        DigestStack x = new Scene(CHECKS, 0, 16320).made();
        for (int i : new int[] {0, 255, 256, 8160, 16318, 16319}) {
            CHECKS.due("out(" + i + ") of the longest", want[i] & 255, () -> x.out(i));
        }
        for (int i : new int[] {-1, 16320, 16321}) {
            CHECKS.due("out(" + i + ") of the longest", DigestStack.NONE, () -> x.out(i));
        }
    }

    private static void changesNothing() {
        Scene scene = new Scene(CHECKS);
        DigestStack x = scene.made();
        x.out(0);
        x.out(39);
        x.out(40);
        x.out(-1);
        scene.dueAsMade("behind out", x);
    }
}
