/** Counts and prints the answers that are not as due; a test's main method ends with end(). */
final class Checks {
    /** A call whose answer, or exception, is looked at. */
    interface Call {
        Object answer();
    }

    /** A call without an answer. */
    interface Act {
        void run();
    }

    private final String title;
    private int wrong;

    Checks(String title) {
        this.title = title;
    }

    void due(String what, Object want, Call call) {
        String got = told(call);
        if (!got.equals(String.valueOf(want))) {
            wrong++;
            System.out.println(title + ": " + what + " answered " + got + ", due is " + want);
        }
    }

    void done(String what, Act act) {
        due(what, "done", call(act));
    }

    void outside(String what, Act act) {
        due(what, "throws.IndexOutOfBoundsException", call(act));
    }

    void unready(String what, Act act) {
        due(what, "throws.IllegalStateException", call(act));
    }

    void refused(String what, Act act) {
        due(what, "throws.IllegalArgumentException", call(act));
    }

    /** OUT has just these octets. */
    void dueOut(String what, byte[] want, DigestStack x) {
        int size = want.length;
        // All of a long OUT would be more calls than an object is used for.
        int step = 8 * (1 + size / 640);
        for (int i = 0; i < size; i += step) {
            int at = i;
            due(what + ", outs(" + i + ")", Reference.eight(want, i), () -> x.outs(at));
        }
        if (size > 0) {
            due(what + ", out of the last", want[size - 1] & 255, () -> x.out(size - 1));
        }
        due(what + ", out behind the last", DigestStack.NONE, () -> x.out(size));
    }

    /** THE TAPE has just these octets; stream 3 begins anew for it, and OUT becomes another. */
    void dueTape(String what, byte[] want, DigestStack x) {
        done(what + ", begin for the tape", () -> x.begin(3, 1));
        due(what + ", size of the tape", (long) want.length, () -> x.update(3));
        due(what + ", finish for the tape", 32, () -> x.finish(3));
        dueOut(what + ", digest of the tape", Reference.digest(1, want), x);
    }

    /** The REGISTERS have just these octets; OUT becomes another. */
    void dueRegisters(String what, byte[] key, byte[] salt, byte[] info, DigestStack x) {
        due(what + ", draw", 28, () -> x.draw(0));
        dueOut(what + ", draw", Reference.draw(0, salt, key), x);
        due(what + ", spread", 33, () -> x.spread(1, 33));
        dueOut(what + ", spread", Reference.spread(1, key, info, 33), x);
    }

    void end() {
        System.out.println(title + ": " + (wrong == 0 ? "all answers are as due" : wrong + " answers are not as due"));
        if (wrong != 0) {
            System.exit(1);
        }
    }

    /** The exact class counts: the machine's own exceptions are classes below those of the document. */
    private static String told(Call call) {
        try {
            return String.valueOf(call.answer());
        } catch (RuntimeException e) {
            return "throws." + e.getClass().getSimpleName();
        }
    }

    private static Call call(Act act) {
        return () -> {
            act.run();
            return "done";
        };
    }
}
