/** Counts and prints the answers that are not as due; a test's main method ends with end(). */
final class Checks {
    /** A call whose answer, or exception, is looked at. */
    interface Call {
        Object answer();
    }

    /** A call without an answer. */
    interface Act {
        void run();
    }

    private int wrong;

    void due(String what, Object want, Call call) {
        String got = told(call);
        if (!got.equals(String.valueOf(want))) {
            wrong++;
            System.out.println(what + " answered " + got + ", due is " + want);
        }
    }

    void done(String what, Act act) {
        due(what, "done", call(act));
    }

    void outside(String what, Call call) {
        due(what, "throws.IndexOutOfBoundsException", call);
    }

    void outside(String what, Act act) {
        outside(what, call(act));
    }

    void unready(String what, Call call) {
        due(what, "throws.IllegalStateException", call);
    }

    void unready(String what, Act act) {
        unready(what, call(act));
    }

    void refused(String what, Call call) {
        due(what, "throws.IllegalArgumentException", call);
    }

    void refused(String what, Act act) {
        refused(what, call(act));
    }

    /** OUT has just these octets; asks for each by out() and for all by outs(). */
    void dueOut(String what, byte[] want, DigestStack x) {
        for (int i = 0; i < want.length; i++) {
            int at = i;
            due(what + ", out(" + i + ")", want[i] & 255, () -> x.out(at));
        }
        due(what + ", out behind the last", DigestStack.NONE, () -> x.out(want.length));
        for (int i = 0; i < want.length + 8; i += 8) {
            int at = i;
            due(what + ", outs(" + i + ")", Reference.eight(want, i), () -> x.outs(at));
        }
    }

    void end() {
        System.out.println(wrong == 0 ? "all answers are as due" : wrong + " answers are not as due");
        if (wrong != 0) {
            System.exit(1);
        }
    }

    /** The exact class counts: the machine's own exceptions are classes below those of the document. */
    private static String told(Call call) {
        try {
            return String.valueOf(call.answer());
        } catch (RuntimeException e) {
            return "throws." + e.getClass().getSimpleName();
        }
    }

    private static Call call(Act act) {
        return () -> {
            act.run();
            return "done";
        };
    }
}
