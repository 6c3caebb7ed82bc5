import java.lang.management.ManagementFactory;

/** Calls make no objects: all calls of a run live in one room, which is never swept. */
public final class RoomTest {
    private static final Checks CHECKS = new Checks("the room");
    private static final com.sun.management.ThreadMXBean BEAN =
            (com.sun.management.ThreadMXBean) ManagementFactory.getThreadMXBean();

    public static void main(String[] args) {
        useAll(new DigestStack());
        DigestStack x = new DigestStack();
        long before = BEAN.getCurrentThreadAllocatedBytes();
        useAll(x);
        long made = BEAN.getCurrentThreadAllocatedBytes() - before;
        // Some octets are the bean's own.
        CHECKS.due("octets made by some 500 calls", true, () -> made < 4096);
        CHECKS.end();
    }

    private static void useAll(DigestStack x) {
        for (int turn = 0; turn < 24; turn++) {
            int kind = turn % 4;
            x.feed(8, turn);
            x.hold(turn % 3);
            x.feed(8, turn);
            x.code(0, kind);
            x.begin(1, kind);
            x.feed(8, turn);
            x.update(1);
            x.repeat(0, turn, 2000);
            x.copy(2, 0);
            x.about(2, 3);
            x.finish(2);
            x.keep(turn % 3);
            x.draw(kind);
            x.spread(kind, 7140);
            x.outs(turn);
            x.stretch(kind, 5, 400);
            x.out(turn);
            x.isOut();
            x.constant(turn);
        }
    }
}
