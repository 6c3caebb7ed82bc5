import java.util.Arrays;

/** Promises 1 (the rows), 2 feed, 10 hold, 11 keep and 17 isOut. */
public final class TapeTest {
    private static final Checks CHECKS = new Checks();

    public static void main(String[] args) {
        newRowsAreEmpty();
        feedPutsTheLowestOctetFirst();
        feedRefusesWrongCounts();
        feedRefusesWhatHasNoRoom();
        holdUsesTheTapeUp();
        holdOutsideLeavesTheTape();
        keepTakesOut();
        keepRefusesMoreThanSixHundred();
        keepOutside();
        isOutComparesAndUsesTheTapeUp();
        CHECKS.end();
    }

    private static void newRowsAreEmpty() {
        DigestStack x = new DigestStack();
        CHECKS.dueOut("new OUT", new byte[0], x);
        CHECKS.due("isOut, both empty", true, x::isOut);
        CHECKS.due("hold, the tape is empty", 0, () -> x.hold(0));
        for (int kind = 0; kind < 4; kind++) {
            int k = kind;
            DigestStack y = new DigestStack();
            CHECKS.due("draw from empty registers", Reference.DIGESTS[k], () -> y.draw(k));
            CHECKS.dueOut("draw from empty registers", Reference.draw(k, new byte[0], new byte[0]), y);
        }
        DigestStack z = new DigestStack();
        CHECKS.due("spread from empty registers", 40, () -> z.spread(1, 40));
        CHECKS.dueOut("spread from empty registers", Reference.spread(1, new byte[0], new byte[0], 40), z);
    }

    private static void feedPutsTheLowestOctetFirst() {
        DigestStack x = new DigestStack();
        x.begin(0, 1);
        int size = 0;
        byte[] want = {};
        for (int n = 1; n <= 8; n++) {
            int count = n;
            size += n;
            CHECKS.due("feed of " + n, size, () -> x.feed(count, 0xf8f7f6f5f4f3f201L));
            want = Reference.join(want, Arrays.copyOf(
                    Reference.hex("01f2f3f4f5f6f7f8"), n));
        }
        CHECKS.due("update", 36L, () -> x.update(0));
        x.finish(0);
        CHECKS.dueOut("feed in pieces", Reference.digest(1, want), x);
        CHECKS.due("feed behind a used tape", 1, () -> x.feed(1, 0));
    }

    private static void feedRefusesWrongCounts() {
        DigestStack x = new DigestStack();
        x.feed(2, 0x0201);
        for (int n : new int[] {0, 9, -1, 16, 600, Integer.MIN_VALUE, Integer.MAX_VALUE}) {
            CHECKS.refused("feed(" + n + ")", () -> x.feed(n, 5));
        }
        CHECKS.due("hold behind refused feeds", 2, () -> x.hold(0));
    }

    private static void feedRefusesWhatHasNoRoom() {
        DigestStack x = new DigestStack();
        byte[] most = Reference.rising(7, 596);
        Reference.feed(x, most);
        CHECKS.refused("feed of 5 to 601", () -> x.feed(5, 0));
        CHECKS.due("feed of 4 to 600", 600, () -> x.feed(4, 0x04030201));
        for (int n = 1; n <= 8; n++) {
            int count = n;
            CHECKS.refused("feed of " + n + " to a full tape", () -> x.feed(count, 0));
        }
        x.begin(0, 3);
        CHECKS.due("update from a full tape", 600L, () -> x.update(0));
        x.finish(0);
        CHECKS.dueOut("full tape", Reference.digest(3, Reference.join(most, Reference.hex("01020304"))), x);
    }

    private static void holdUsesTheTapeUp() {
        byte[] secret = Reference.text("secret");
        byte[] salt = Reference.rising(200, 600);
        byte[] info = Reference.text("info");
        DigestStack x = new DigestStack();
        Reference.feed(x, secret);
        CHECKS.due("hold(0)", 6, () -> x.hold(0));
        Reference.feed(x, salt);
        CHECKS.due("hold(1), full", 600, () -> x.hold(1));
        Reference.feed(x, info);
        CHECKS.due("hold(2)", 4, () -> x.hold(2));
        x.draw(0);
        CHECKS.dueOut("draw from held rows", Reference.draw(0, salt, secret), x);
        x.spread(2, 60);
        CHECKS.dueOut("spread from held rows", Reference.spread(2, secret, info, 60), x);
        CHECKS.due("hold(1) of an empty tape", 0, () -> x.hold(1));
        x.draw(1);
        CHECKS.dueOut("draw behind an emptied salt", Reference.draw(1, new byte[0], secret), x);
    }

    private static void holdOutsideLeavesTheTape() {
        DigestStack x = new DigestStack();
        x.feed(3, 0x030201);
        for (int which : new int[] {-1, 3, Integer.MIN_VALUE, Integer.MAX_VALUE}) {
            CHECKS.outside("hold(" + which + ")", () -> x.hold(which));
        }
        CHECKS.due("hold behind wrong ones", 3, () -> x.hold(0));
        x.draw(1);
        CHECKS.dueOut("hold behind wrong ones", Reference.draw(1, new byte[0], Reference.hex("010203")), x);
    }

    private static void keepTakesOut() {
        DigestStack x = new DigestStack();
        x.begin(0, 1);
        x.finish(0);
        byte[] empty = Reference.digest(1, new byte[0]);
        for (int which = 0; which < 3; which++) {
            int register = which;
            CHECKS.due("keep(" + which + ")", 32, () -> x.keep(register));
        }
        CHECKS.dueOut("OUT behind keep", empty, x);
        x.spread(1, 50);
        CHECKS.dueOut("spread of kept rows", Reference.spread(1, empty, empty, 50), x);
        x.draw(2);
        CHECKS.dueOut("draw of kept rows", Reference.draw(2, empty, empty), x);
        x.spread(3, 0);
        CHECKS.due("keep of an empty OUT", 0, () -> x.keep(0));
        x.draw(2);
        CHECKS.dueOut("draw of an emptied secret", Reference.draw(2, empty, new byte[0]), x);
    }

    private static void keepRefusesMoreThanSixHundred() {
        DigestStack x = new DigestStack();
        byte[] word = Reference.text("word");
        Reference.feed(x, word);
        x.hold(0);
        CHECKS.due("spread to 601", 601, () -> x.spread(0, 601));
        CHECKS.due("keep of 601", DigestStack.NONE, () -> x.keep(0));
        CHECKS.due("OUT behind keep of 601", Reference.spread(0, word, new byte[0], 601)[600] & 255, () -> x.out(600));
        x.draw(0);
        CHECKS.dueOut("draw behind keep of 601", Reference.draw(0, new byte[0], word), x);
        x.spread(0, 600);
        CHECKS.due("keep of 600", 600, () -> x.keep(0));
        x.draw(0);
        CHECKS.dueOut("draw behind keep of 600",
                Reference.draw(0, new byte[0], Reference.spread(0, word, new byte[0], 600)), x);
    }

    private static void keepOutside() {
        DigestStack x = new DigestStack();
        x.spread(3, 700);
        for (int which : new int[] {-1, 3, Integer.MIN_VALUE, Integer.MAX_VALUE}) {
            CHECKS.outside("keep(" + which + ")", () -> x.keep(which));
        }
    }

    private static void isOutComparesAndUsesTheTapeUp() {
        DigestStack x = new DigestStack();
        x.begin(0, 0);
        x.finish(0);
        byte[] digest = Reference.digest(0, new byte[0]);
        CHECKS.due("isOut of an empty tape", false, x::isOut);
        Reference.feed(x, digest);
        CHECKS.due("isOut of the digest", true, x::isOut);
        CHECKS.due("isOut once more", false, x::isOut);
        for (int i : new int[] {0, 13, 27}) {
            byte[] other = digest.clone();
            other[i] ^= 1;
            Reference.feed(x, other);
            CHECKS.due("isOut with another octet " + i, false, x::isOut);
        }
        Reference.feed(x, Arrays.copyOf(digest, 27));
        CHECKS.due("isOut, one too few", false, x::isOut);
        Reference.feed(x, Arrays.copyOf(digest, 29));
        CHECKS.due("isOut, one too many", false, x::isOut);
        CHECKS.due("feed behind isOut", 1, () -> x.feed(1, 0));
        CHECKS.dueOut("OUT behind isOut", digest, x);
    }
}
