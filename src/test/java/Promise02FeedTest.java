import java.util.Arrays;

/** Promise 2: feed; of the terms "THE TAPE has at most 600 octets". */
public final class Promise02FeedTest {
    private static final Checks CHECKS = new Checks("promise 2, feed");
    private static final byte[] FALLING = Reference.hex("f1e2d3c4b5a69788");

    public static void main(String[] args) {
        takesTheLowestOctets();
        takesEveryLong();
        comesBehindTheTape();
        refusesOtherCounts();
        goesToSixHundred();
        refusesMoreThanSixHundred();
        hasRoomAgainBehindAUse();
        leavesTheRest();
        CHECKS.end();
    }

    // "The n lowest octets of a long, the lowest first"
    private static void takesTheLowestOctets() {
        for (int n = 1; n <= 8; n++) {
            int count = n;
            DigestStack x = new DigestStack();
            CHECKS.due("feed(" + n + ", ..)", n, () -> x.feed(count, 0x8897a6b5c4d3e2f1L));
            CHECKS.dueTape("feed(" + n + ", ..)", Arrays.copyOf(FALLING, n), x);
        }
    }

    private static void takesEveryLong() {
        long[] all = {0, 1, 127, 128, 255, 256, -1, -256, 0xffffffffL, 0x80000000L, 0x100000000L,
            Long.MIN_VALUE, Long.MAX_VALUE};
        for (long octets : all) {
            byte[] want = new byte[8];
            for (int i = 0; i < 8; i++) {
                want[i] = (byte) (octets >> 8 * i);
            }
            for (int n = 1; n <= 8; n++) {
                DigestStack x = new DigestStack();
                x.feed(n, octets);
                CHECKS.dueTape("feed(" + n + ", " + octets + ")", Arrays.copyOf(want, n), x);
            }
        }
    }

    // "come behind THE TAPE. Answers its size."
    private static void comesBehindTheTape() {
        DigestStack x = new DigestStack();
        byte[] want = {};
        for (int n = 8; n >= 1; n--) {
            int count = n;
            want = Reference.join(want, Arrays.copyOf(FALLING, n));
            int size = want.length;
            CHECKS.due("feed of " + n + " to " + size, size, () -> x.feed(count, 0x8897a6b5c4d3e2f1L));
        }
        CHECKS.dueTape("feeds one behind another", want, x);
    }

    // "IllegalArgumentException: n is not 1 .. 8"
    private static void refusesOtherCounts() {
        for (int size : new int[] {0, 5, 600}) {
            Scene scene = new Scene(CHECKS, size, 40);
            for (int n : Reference.outside(1, 8)) {
                scene.refused("feed(" + n + ", 7) to a tape of " + size, x -> x.feed(n, 7));
            }
        }
    }

    // "or there would be more than 600": 600 are not more
    private static void goesToSixHundred() {
        for (int n = 1; n <= 8; n++) {
            int count = n;
            byte[] before = Reference.rising(9, 600 - n);
            DigestStack x = new DigestStack();
            Reference.feed(x, before);
            CHECKS.due("feed of " + n + " to 600", 600, () -> x.feed(count, 0x8897a6b5c4d3e2f1L));
            CHECKS.dueTape("a tape of 600", Reference.join(before, Arrays.copyOf(FALLING, n)), x);
        }
    }

    // "or there would be more than 600": 601 are
    private static void refusesMoreThanSixHundred() {
        for (int n = 1; n <= 8; n++) {
            int count = n;
            new Scene(CHECKS, 601 - n, 40).refused("feed of " + n + " to 601", x -> x.feed(count, -1));
            new Scene(CHECKS, 600, 40).refused("feed of " + n + " to 600", x -> x.feed(count, -1));
        }
        Scene almostFull = new Scene(CHECKS, 599, 40);
        DigestStack x = almostFull.made();
        CHECKS.refused("feed of 2 to 599", () -> x.feed(2, 0));
        CHECKS.due("feed of 1 behind a refused one", 600, () -> x.feed(1, 0x77));
        CHECKS.dueTape("behind a refused one", Reference.join(almostFull.tape, Reference.hex("77")), x);
    }

    private static void hasRoomAgainBehindAUse() {
        DigestStack x = new DigestStack();
        byte[] first = Reference.rising(1, 600);
        byte[] second = Reference.rising(2, 600);
        Reference.feed(x, first);
        x.hold(0);
        Reference.feed(x, second);
        CHECKS.refused("feed to a second full tape", () -> x.feed(1, 0));
        CHECKS.dueTape("a second full tape", second, x);
        CHECKS.dueRegisters("a first full tape", first, new byte[0], new byte[0], x);
    }

    private static void leavesTheRest() {
        Scene scene = new Scene(CHECKS, 0, 40);
        DigestStack x = scene.made();
        x.feed(8, 1234);
        CHECKS.due("isOut uses the fed octets up", false, x::isOut);
        scene.dueAsMade("behind feed", x);
    }
}
