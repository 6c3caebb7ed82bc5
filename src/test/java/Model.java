import java.util.Arrays;

/** The document once more, in its simplest form, over the library's digests; for runs by chance. */
public final class Model {
    private static final class Stream {
        int kind = -1;
        byte[] key;
        boolean ended;
        byte[] message = {};
    }

    private byte[] tape = {};
    private byte[] out = {};
    private final byte[][] registers = {{}, {}, {}};
    private final Stream[] streams = {new Stream(), new Stream(), new Stream(), new Stream()};

    byte[] outRow() {
        return out;
    }

    public int feed(int n, long octets) {
        refuseUnless(n >= 1 && n <= 8 && tape.length + n <= 600);
        for (int i = 0; i < n; i++) {
            tape = Reference.join(tape, new byte[] {(byte) (octets >> 8 * i)});
        }
        return tape.length;
    }

    public void begin(int stream, int kind) {
        inside(stream, 4);
        refuseUnless(kind >= 0 && kind < 4);
        streams[stream] = new Stream();
        streams[stream].kind = kind;
    }

    public int code(int stream, int kind) {
        begin(stream, kind);
        streams[stream].key = takeTape();
        return streams[stream].key.length;
    }

    public long update(int stream) {
        Stream s = open(stream);
        s.message = Reference.join(s.message, takeTape());
        return s.message.length;
    }

    public long repeat(int stream, int v, int n) {
        Stream s = open(stream);
        refuseUnless(n >= 0 && n <= 20000);
        s.message = Reference.join(s.message, Reference.same(v, n));
        return s.message.length;
    }

    public int finish(int stream) {
        Stream s = open(stream);
        s.ended = true;
        out = s.key == null ? Reference.digest(s.kind, s.message) : Reference.code(s.kind, s.key, s.message);
        return out.length;
    }

    public void copy(int to, int from) {
        inside(to, 4);
        inside(from, 4);
        Stream source = streams[from];
        if (source.kind < 0) {
            throw new IllegalStateException();
        }
        Stream twin = new Stream();
        twin.kind = source.kind;
        twin.key = source.key;
        twin.ended = source.ended;
        twin.message = source.message;
        streams[to] = twin;
    }

    public int about(int stream, int what) {
        inside(stream, 4);
        inside(what, 4);
        Stream s = streams[stream];
        int loose = s.kind < 0 ? 0 : s.message.length % Reference.BLOCKS[s.kind];
        return new int[] {s.kind, s.key != null ? 1 : 0, s.ended ? 1 : 0, loose}[what];
    }

    public int hold(int which) {
        inside(which, 3);
        registers[which] = takeTape();
        return registers[which].length;
    }

    public int keep(int which) {
        inside(which, 3);
        if (out.length > 600) {
            return -1;
        }
        registers[which] = out;
        return out.length;
    }

    public int draw(int kind) {
        refuseUnless(kind >= 0 && kind < 4);
        out = Reference.draw(kind, registers[1], registers[0]);
        return out.length;
    }

    public int spread(int kind, int n) {
        refuseUnless(kind >= 0 && kind < 4 && n >= 0 && n <= 16320);
        if (n > 255 * Reference.DIGESTS[kind]) {
            return -1;
        }
        out = Reference.spread(kind, registers[0], registers[2], n);
        return n;
    }

    public int stretch(int kind, int turns, int n) {
        refuseUnless(kind >= 0 && kind < 4 && turns >= 1 && turns <= 500 && n >= 0 && n <= 400);
        out = Reference.stretch(kind, registers[0], registers[1], turns, n);
        return n;
    }

    public int out(int i) {
        return i >= 0 && i < out.length ? out[i] & 255 : -1;
    }

    public long outs(int i) {
        return Reference.eight(out, i);
    }

    public boolean isOut() {
        return Arrays.equals(out, takeTape());
    }

    public long constant(int i) {
        return i >= 0 && i < 80 ? Reference.thirdRoot(i) : 0;
    }

    private byte[] takeTape() {
        byte[] row = tape;
        tape = new byte[0];
        return row;
    }

    private Stream open(int stream) {
        inside(stream, 4);
        if (streams[stream].kind < 0 || streams[stream].ended) {
            throw new IllegalStateException();
        }
        return streams[stream];
    }

    private static void inside(int i, int bound) {
        if (i < 0 || i >= bound) {
            throw new IndexOutOfBoundsException();
        }
    }

    private static void refuseUnless(boolean right) {
        if (!right) {
            throw new IllegalArgumentException();
        }
    }
}
