/**
 * Digests of four sizes over streams that come in pieces, codes with keys above them, and keys
 * drawn out of keys and out of words that are remembered.
 */
public final class DigestStack {
    public static final int NONE = -1;

    private static final int KINDS = 4;
    private static final int STREAMS = 4;
    private static final int REGISTERS = 3;
    private static final int KEY = 0;
    private static final int SALT = 1;
    private static final int INFO = 2;

    private static final int TAPE_ROOM = 600;
    private static final int OUT_ROOM = 16320;
    private static final int LARGEST_BLOCK = 128;
    private static final int LARGEST_DIGEST = 64;
    private static final int MOST_REPEATED = 20000;
    private static final int MOST_PARTS = 255;
    private static final int MOST_TURNS = 500;
    private static final int MOST_STRETCHED = 400;

    private static final int WORDS = 8;
    private static final int NARROW_ROUNDS = 64;
    private static final int WIDE_ROUNDS = 80;
    private static final long LOW_HALF = 0xffffffffL;

    private static final int[] DIGEST_SIZES = {28, 32, 48, 64};

    // Third roots of the first 80 primes, 64 bits behind the point. The narrow kinds use the high
    // halves, which are the first 32 bits of the same roots.
    private static final long[] THIRD_ROOTS = {
        0x428a2f98d728ae22L, 0x7137449123ef65cdL, 0xb5c0fbcfec4d3b2fL, 0xe9b5dba58189dbbcL,
        0x3956c25bf348b538L, 0x59f111f1b605d019L, 0x923f82a4af194f9bL, 0xab1c5ed5da6d8118L,
        0xd807aa98a3030242L, 0x12835b0145706fbeL, 0x243185be4ee4b28cL, 0x550c7dc3d5ffb4e2L,
        0x72be5d74f27b896fL, 0x80deb1fe3b1696b1L, 0x9bdc06a725c71235L, 0xc19bf174cf692694L,
        0xe49b69c19ef14ad2L, 0xefbe4786384f25e3L, 0x0fc19dc68b8cd5b5L, 0x240ca1cc77ac9c65L,
        0x2de92c6f592b0275L, 0x4a7484aa6ea6e483L, 0x5cb0a9dcbd41fbd4L, 0x76f988da831153b5L,
        0x983e5152ee66dfabL, 0xa831c66d2db43210L, 0xb00327c898fb213fL, 0xbf597fc7beef0ee4L,
        0xc6e00bf33da88fc2L, 0xd5a79147930aa725L, 0x06ca6351e003826fL, 0x142929670a0e6e70L,
        0x27b70a8546d22ffcL, 0x2e1b21385c26c926L, 0x4d2c6dfc5ac42aedL, 0x53380d139d95b3dfL,
        0x650a73548baf63deL, 0x766a0abb3c77b2a8L, 0x81c2c92e47edaee6L, 0x92722c851482353bL,
        0xa2bfe8a14cf10364L, 0xa81a664bbc423001L, 0xc24b8b70d0f89791L, 0xc76c51a30654be30L,
        0xd192e819d6ef5218L, 0xd69906245565a910L, 0xf40e35855771202aL, 0x106aa07032bbd1b8L,
        0x19a4c116b8d2d0c8L, 0x1e376c085141ab53L, 0x2748774cdf8eeb99L, 0x34b0bcb5e19b48a8L,
        0x391c0cb3c5c95a63L, 0x4ed8aa4ae3418acbL, 0x5b9cca4f7763e373L, 0x682e6ff3d6b2b8a3L,
        0x748f82ee5defb2fcL, 0x78a5636f43172f60L, 0x84c87814a1f0ab72L, 0x8cc702081a6439ecL,
        0x90befffa23631e28L, 0xa4506cebde82bde9L, 0xbef9a3f7b2c67915L, 0xc67178f2e372532bL,
        0xca273eceea26619cL, 0xd186b8c721c0c207L, 0xeada7dd6cde0eb1eL, 0xf57d4f7fee6ed178L,
        0x06f067aa72176fbaL, 0x0a637dc5a2c898a6L, 0x113f9804bef90daeL, 0x1b710b35131c471bL,
        0x28db77f523047d84L, 0x32caab7b40c72493L, 0x3c9ebe0a15c9bebcL, 0x431d67c49c100d4cL,
        0x4cc5d4becb3e42b6L, 0x597f299cfc657e2aL, 0x5fcb6fab3ad6faecL, 0x6c44198c4a475817L
    };

    // Square roots of the primes 2 .. 19, then of 23 .. 53, 64 bits behind the point.
    private static final long[] FIRST_SQUARE_ROOTS = {
        0x6a09e667f3bcc908L, 0xbb67ae8584caa73bL, 0x3c6ef372fe94f82bL, 0xa54ff53a5f1d36f1L,
        0x510e527fade682d1L, 0x9b05688c2b3e6c1fL, 0x1f83d9abfb41bd6bL, 0x5be0cd19137e2179L
    };
    private static final long[] NEXT_SQUARE_ROOTS = {
        0xcbbb9d5dc1059ed8L, 0x629a292a367cd507L, 0x9159015a3070dd17L, 0x152fecd8f70e5939L,
        0x67332667ffc00b31L, 0x8eb44a8768581511L, 0xdb0c2e0d64f98fa7L, 0x47b5481dbefa4fa4L
    };

    private final Row tape = new Row(TAPE_ROOM);
    private final Row result = new Row(OUT_ROOM);
    private final Row[] registers = new Row[REGISTERS];
    private final Stream[] streams = new Stream[STREAMS];

    // The rows below are made once and used again, so that no call makes objects.
    private final Stream worker = new Stream();
    private final Row link = new Row(LARGEST_DIGEST);
    private final Row sum = new Row(LARGEST_DIGEST);

    public DigestStack() {
        for (int i = 0; i < REGISTERS; i++) {
            registers[i] = new Row(TAPE_ROOM);
        }
        for (int i = 0; i < STREAMS; i++) {
            streams[i] = new Stream();
        }
    }

    public int feed(int n, long octets) throws IllegalArgumentException {
        if (n < 1 || n > 8) {
            throw new IllegalArgumentException("n is not 1 .. 8");
        }
        if (tape.size + n > TAPE_ROOM) {
            throw new IllegalArgumentException("the tape has no room");
        }
        for (int i = 0; i < n; i++) {
            tape.append((int) (octets >>> (8 * i)));
        }
        return tape.size;
    }

    public void begin(int stream, int kind) throws IndexOutOfBoundsException, IllegalArgumentException {
        Stream chosen = streamAt(stream);
        checkKind(kind);
        chosen.startDigest(kind);
    }

    public int code(int stream, int kind) throws IndexOutOfBoundsException, IllegalArgumentException {
        Stream chosen = streamAt(stream);
        checkKind(kind);
        int size = tape.size;
        chosen.startCode(kind, tape);
        tape.clear();
        return size;
    }

    public long update(int stream) throws IndexOutOfBoundsException, IllegalStateException {
        Stream chosen = openStreamAt(stream);
        chosen.addRow(tape);
        tape.clear();
        return chosen.length;
    }

    public long repeat(int stream, int v, int n)
            throws IndexOutOfBoundsException, IllegalStateException, IllegalArgumentException {
        Stream chosen = openStreamAt(stream);
        if (n < 0 || n > MOST_REPEATED) {
            throw new IllegalArgumentException("n is not 0 .. 20000");
        }
        for (int i = 0; i < n; i++) {
            chosen.addOctet(v);
        }
        return chosen.length;
    }

    public int finish(int stream) throws IndexOutOfBoundsException, IllegalStateException {
        Stream chosen = openStreamAt(stream);
        chosen.closeInto(result);
        return result.size;
    }

    public void copy(int to, int from) throws IndexOutOfBoundsException, IllegalStateException {
        Stream target = streamAt(to);
        Stream source = streamAt(from);
        if (source.kind == NONE) {
            throw new IllegalStateException("the stream has not begun");
        }
        target.become(source);
    }

    public int about(int stream, int what) throws IndexOutOfBoundsException {
        Stream chosen = streamAt(stream);
        switch (what) {
            case 0:
                return chosen.kind;
            case 1:
                return chosen.coded ? 1 : 0;
            case 2:
                return chosen.ended ? 1 : 0;
            case 3:
                return chosen.loose();
            default:
                throw new IndexOutOfBoundsException("no such question");
        }
    }

    public int hold(int which) throws IndexOutOfBoundsException {
        Row register = registerAt(which);
        register.become(tape);
        tape.clear();
        return register.size;
    }

    public int keep(int which) throws IndexOutOfBoundsException {
        Row register = registerAt(which);
        if (result.size > TAPE_ROOM) {
            return NONE;
        }
        register.become(result);
        return register.size;
    }

    public int draw(int kind) throws IllegalArgumentException {
        checkKind(kind);
        worker.startCode(kind, registers[SALT]);
        worker.addRow(registers[KEY]);
        worker.closeInto(result);
        return result.size;
    }

    public int spread(int kind, int n) throws IllegalArgumentException {
        checkKind(kind);
        if (n < 0 || n > OUT_ROOM) {
            throw new IllegalArgumentException("n is not 0 .. 16320");
        }
        if (n > MOST_PARTS * digestSize(kind)) {
            return NONE;
        }
        worker.startCode(kind, registers[KEY]);
        result.clear();
        link.clear();
        for (int i = 1; i <= MOST_PARTS && result.size < n; i++) {
            nextLink(i);
            result.appendUpTo(n, link);
        }
        return n;
    }

    public int stretch(int kind, int turns, int n) throws IllegalArgumentException {
        checkKind(kind);
        if (turns < 1 || turns > MOST_TURNS) {
            throw new IllegalArgumentException("turns are not 1 .. 500");
        }
        if (n < 0 || n > MOST_STRETCHED) {
            throw new IllegalArgumentException("n is not 0 .. 400");
        }
        worker.startCode(kind, registers[KEY]);
        result.clear();
        for (int i = 1; i <= MOST_STRETCHED && result.size < n; i++) {
            sumTurns(i, turns);
            result.appendUpTo(n, sum);
        }
        return n;
    }

    public int out(int i) {
        return result.at(i);
    }

    public long outs(int i) {
        long eight = 0;
        for (int j = 0; j < 8; j++) {
            // Where i + j wraps around it is far below 0, and no octet is there either.
            eight = eight << 8 | result.atOrZero(i + j);
        }
        return eight;
    }

    public boolean isOut() {
        boolean same = result.sameAs(tape);
        tape.clear();
        return same;
    }

    public long constant(int i) {
        return i >= 0 && i < WIDE_ROUNDS ? THIRD_ROOTS[i] : 0;
    }

    private Stream streamAt(int number) {
        if (number < 0 || number >= STREAMS) {
            throw new IndexOutOfBoundsException("no such stream");
        }
        return streams[number];
    }

    private Stream openStreamAt(int number) {
        Stream chosen = streamAt(number);
        if (chosen.kind == NONE || chosen.ended) {
            throw new IllegalStateException("the stream has not begun, or is at its end");
        }
        return chosen;
    }

    private Row registerAt(int number) {
        if (number < 0 || number >= REGISTERS) {
            throw new IndexOutOfBoundsException("no such register");
        }
        return registers[number];
    }

    private static void checkKind(int kind) {
        if (kind < 0 || kind >= KINDS) {
            throw new IllegalArgumentException("no such kind");
        }
    }

    private static int digestSize(int kind) {
        return kind >= 0 && kind < KINDS ? DIGEST_SIZES[kind] : 0;
    }

    private static boolean isWide(int kind) {
        return kind >= 2;
    }

    private static int blockSize(int kind) {
        return isWide(kind) ? 128 : 64;
    }

    private void nextLink(int i) {
        worker.restartCode();
        worker.addRow(link);
        worker.addRow(registers[INFO]);
        worker.addOctet(i);
        worker.closeInto(link);
    }

    private void sumTurns(int i, int turns) {
        worker.restartCode();
        worker.addRow(registers[SALT]);
        for (int shift = 24; shift >= 0; shift -= 8) {
            worker.addOctet(i >>> shift);
        }
        worker.closeInto(link);
        sum.become(link);
        for (int turn = 2; turn <= turns; turn++) {
            worker.restartCode();
            worker.addRow(link);
            worker.closeInto(link);
            sum.xorWith(link);
        }
    }

    /** Octets in a room that never grows: a run may make only so many elements in all. */
    private static final class Row {
        private final byte[] octets;
        private int size;

        Row(int room) {
            octets = new byte[room < 0 ? 0 : room];
        }

        void clear() {
            size = 0;
        }

        void append(int octet) {
            // Callers keep to the room; the test only keeps the machine from throwing.
            if (size >= 0 && size < octets.length) {
                octets[size] = (byte) octet;
                size++;
            }
        }

        void appendUpTo(int limit, Row other) {
            for (int i = 0; i < other.size && size < limit; i++) {
                append(other.atOrZero(i));
            }
        }

        void become(Row other) {
            clear();
            appendUpTo(octets.length, other);
        }

        void xorWith(Row other) {
            for (int i = 0; i < size && i < octets.length; i++) {
                octets[i] ^= (byte) other.atOrZero(i);
            }
        }

        int at(int i) {
            return i >= 0 && i < size && i < octets.length ? octets[i] & 255 : NONE;
        }

        int atOrZero(int i) {
            return Math.max(at(i), 0);
        }

        boolean sameAs(Row other) {
            if (size != other.size) {
                return false;
            }
            for (int i = 0; i < size; i++) {
                if (at(i) != other.at(i)) {
                    return false;
                }
            }
            return true;
        }
    }

    /** A DIGEST or a CODE whose message comes in pieces. */
    private static final class Stream {
        private final Hash hash = new Hash();
        private final Row spare = new Row(LARGEST_BLOCK);
        // Kept, because STRETCHING and SPREADING make many codes by the same KEY.
        private final long[] innerStart = new long[WORDS];
        private final long[] outerStart = new long[WORDS];
        private int kind = NONE;
        private boolean coded;
        private boolean ended;
        // The hash's own length counts the KEY's block too, and does not outlast the end.
        private long length;

        void startDigest(int newKind) {
            kind = newKind;
            coded = false;
            ended = false;
            length = 0;
            hash.start(newKind);
        }

        void startCode(int newKind, Row key) {
            startDigest(newKind);
            coded = true;
            if (key.size > blockSize(newKind)) {
                hash.addRow(key);
                hash.pad();
                hash.writeDigest(spare);
            } else {
                spare.become(key);
            }
            startFromKey(54, innerStart);
            startFromKey(92, outerStart);
            restartCode();
        }

        private void startFromKey(int mask, long[] start) {
            hash.start(kind);
            for (int i = 0; i < blockSize(kind); i++) {
                hash.add(spare.atOrZero(i) ^ mask);
            }
            hash.saveWords(start);
        }

        void restartCode() {
            ended = false;
            length = 0;
            hash.startBehindBlock(kind, innerStart);
        }

        void addOctet(int octet) {
            hash.add(octet);
            length++;
        }

        void addRow(Row row) {
            hash.addRow(row);
            length += row.size;
        }

        void closeInto(Row target) {
            ended = true;
            hash.pad();
            if (coded) {
                hash.writeDigest(spare);
                hash.startBehindBlock(kind, outerStart);
                hash.addRow(spare);
                hash.pad();
            }
            hash.writeDigest(target);
        }

        int loose() {
            // A BLOCK's size is a power of two, so that no division is needed.
            return (int) (length & (blockSize(kind) - 1));
        }

        void become(Stream other) {
            kind = other.kind;
            coded = other.coded;
            ended = other.ended;
            length = other.length;
            hash.become(other.hash);
            System.arraycopy(other.innerStart, 0, innerStart, 0, WORDS);
            System.arraycopy(other.outerStart, 0, outerStart, 0, WORDS);
        }
    }

    /** DIGESTS of all KINDS; words of 32 bits stand in the low halves of longs, so that one row does. */
    private static final class Hash {
        private final long[] words = new long[WORDS];
        private final byte[] block = new byte[LARGEST_BLOCK];
        private final int[] narrow = new int[NARROW_ROUNDS];
        private final long[] wide = new long[WIDE_ROUNDS];
        private int kind;
        private int filled;
        private long length;

        void start(int newKind) {
            kind = newKind;
            filled = 0;
            length = 0;
            for (int i = 0; i < WORDS; i++) {
                words[i] = firstWord(newKind, i);
            }
        }

        private static long firstWord(int newKind, int i) {
            if (i < 0 || i >= WORDS) {
                return 0;
            }
            switch (newKind) {
                case 0:
                    return NEXT_SQUARE_ROOTS[i] & LOW_HALF;
                case 1:
                    return FIRST_SQUARE_ROOTS[i] >>> 32;
                case 2:
                    return NEXT_SQUARE_ROOTS[i];
                default:
                    return FIRST_SQUARE_ROOTS[i];
            }
        }

        void startBehindBlock(int newKind, long[] start) {
            kind = newKind;
            filled = 0;
            length = blockSize(newKind);
            for (int i = 0; i < WORDS && i < start.length; i++) {
                words[i] = start[i];
            }
        }

        void saveWords(long[] target) {
            for (int i = 0; i < WORDS && i < target.length; i++) {
                target[i] = words[i];
            }
        }

        void become(Hash other) {
            kind = other.kind;
            filled = other.filled;
            length = other.length;
            System.arraycopy(other.words, 0, words, 0, WORDS);
            System.arraycopy(other.block, 0, block, 0, LARGEST_BLOCK);
        }

        void add(int octet) {
            length++;
            place(octet);
        }

        void addRow(Row row) {
            length += row.size;
            for (int i = 0; i < row.size; i++) {
                place(row.atOrZero(i));
            }
        }

        private void place(int octet) {
            if (filled >= 0 && filled < LARGEST_BLOCK) {
                block[filled] = (byte) octet;
            }
            filled++;
            if (filled < blockSize(kind)) {
                return;
            }
            filled = 0;
            if (isWide(kind)) {
                layWide();
                mixWide();
            } else {
                layNarrow();
                mixNarrow();
            }
        }

        void writeDigest(Row target) {
            target.clear();
            for (int i = 0; i < digestSize(kind); i++) {
                target.append(octetOfWords(i));
            }
        }

        void pad() {
            long bits = length * 8;
            place(128);
            // The wide kinds leave 16 octets for the bits, whose upper 8 are 0 for every length here.
            int room = isWide(kind) ? 16 : 8;
            int zeros = (blockSize(kind) - room - filled) & (blockSize(kind) - 1);
            for (int i = 0; i < zeros + room - 8; i++) {
                place(0);
            }
            for (int shift = 56; shift >= 0; shift -= 8) {
                place((int) (bits >>> shift));
            }
        }

        private int octetOfWords(int i) {
            if (i < 0 || i >= digestSize(kind)) {
                return 0;
            }
            if (isWide(kind)) {
                return (int) (words[i >> 3] >>> (56 - 8 * (i & 7)));
            }
            return (int) (words[i >> 2] >>> (24 - 8 * (i & 3)));
        }

        private void layNarrow() {
            for (int t = 0; t < 16; t++) {
                int word = 0;
                for (int i = 0; i < 4; i++) {
                    word = word << 8 | block[4 * t + i] & 255;
                }
                narrow[t] = word;
            }
            for (int t = 16; t < NARROW_ROUNDS; t++) {
                int x = narrow[t - 15];
                int y = narrow[t - 2];
                int s0 = Integer.rotateRight(x, 7) ^ Integer.rotateRight(x, 18) ^ x >>> 3;
                int s1 = Integer.rotateRight(y, 17) ^ Integer.rotateRight(y, 19) ^ y >>> 10;
                narrow[t] = s1 + narrow[t - 7] + s0 + narrow[t - 16];
            }
        }

        private void mixNarrow() {
            int a = (int) words[0];
            int b = (int) words[1];
            int c = (int) words[2];
            int d = (int) words[3];
            int e = (int) words[4];
            int f = (int) words[5];
            int g = (int) words[6];
            int h = (int) words[7];
            for (int t = 0; t < NARROW_ROUNDS; t++) {
                int b1 = Integer.rotateRight(e, 6) ^ Integer.rotateRight(e, 11) ^ Integer.rotateRight(e, 25);
                int b0 = Integer.rotateRight(a, 2) ^ Integer.rotateRight(a, 13) ^ Integer.rotateRight(a, 22);
                int x = h + b1 + (e & f ^ ~e & g) + (int) (THIRD_ROOTS[t] >>> 32) + narrow[t];
                int y = b0 + (a & b ^ a & c ^ b & c);
                h = g;
                g = f;
                f = e;
                e = d + x;
                d = c;
                c = b;
                b = a;
                a = x + y;
            }
            words[0] = words[0] + a & LOW_HALF;
            words[1] = words[1] + b & LOW_HALF;
            words[2] = words[2] + c & LOW_HALF;
            words[3] = words[3] + d & LOW_HALF;
            words[4] = words[4] + e & LOW_HALF;
            words[5] = words[5] + f & LOW_HALF;
            words[6] = words[6] + g & LOW_HALF;
            words[7] = words[7] + h & LOW_HALF;
        }

        private void layWide() {
            for (int t = 0; t < 16; t++) {
                long word = 0;
                for (int i = 0; i < 8; i++) {
                    word = word << 8 | block[8 * t + i] & 255;
                }
                wide[t] = word;
            }
            for (int t = 16; t < WIDE_ROUNDS; t++) {
                long x = wide[t - 15];
                long y = wide[t - 2];
                long s0 = Long.rotateRight(x, 1) ^ Long.rotateRight(x, 8) ^ x >>> 7;
                long s1 = Long.rotateRight(y, 19) ^ Long.rotateRight(y, 61) ^ y >>> 6;
                wide[t] = s1 + wide[t - 7] + s0 + wide[t - 16];
            }
        }

        private void mixWide() {
            long a = words[0];
            long b = words[1];
            long c = words[2];
            long d = words[3];
            long e = words[4];
            long f = words[5];
            long g = words[6];
            long h = words[7];
            for (int t = 0; t < WIDE_ROUNDS; t++) {
                long b1 = Long.rotateRight(e, 14) ^ Long.rotateRight(e, 18) ^ Long.rotateRight(e, 41);
                long b0 = Long.rotateRight(a, 28) ^ Long.rotateRight(a, 34) ^ Long.rotateRight(a, 39);
                long x = h + b1 + (e & f ^ ~e & g) + THIRD_ROOTS[t] + wide[t];
                long y = b0 + (a & b ^ a & c ^ b & c);
                h = g;
                g = f;
                f = e;
                e = d + x;
                d = c;
                c = b;
                b = a;
                a = x + y;
            }
            words[0] += a;
            words[1] += b;
            words[2] += c;
            words[3] += d;
            words[4] += e;
            words[5] += f;
            words[6] += g;
            words[7] += h;
        }
    }
}
