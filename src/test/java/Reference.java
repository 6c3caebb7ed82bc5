import java.io.ByteArrayOutputStream;
import java.math.BigInteger;
import java.nio.charset.StandardCharsets;
import java.security.GeneralSecurityException;
import java.security.MessageDigest;
import java.util.Arrays;
import java.util.HexFormat;
import javax.crypto.Mac;
import javax.crypto.spec.SecretKeySpec;

/** What is due, by the Java library's own digests and codes. */
final class Reference {
    static final int[] DIGESTS = {28, 32, 48, 64};
    static final int[] BLOCKS = {64, 64, 128, 128};
    private static final String[] NAMES = {"224", "256", "384", "512"};

    private Reference() {
    }

    static byte[] digest(int kind, byte[] message) {
        try {
            return MessageDigest.getInstance("SHA-" + NAMES[kind]).digest(message);
        } catch (GeneralSecurityException e) {
            throw new IllegalStateException(e);
        }
    }

    static byte[] code(int kind, byte[] key, byte[] message) {
        return mac(kind, key).doFinal(message);
    }

    static byte[] draw(int kind, byte[] salt, byte[] secret) {
        return code(kind, salt.length == 0 ? new byte[DIGESTS[kind]] : salt, secret);
    }

    static byte[] spread(int kind, byte[] key, byte[] info, int n) {
        byte[] all = {};
        byte[] link = {};
        for (int i = 1; all.length < n; i++) {
            link = code(kind, key, join(link, info, new byte[] {(byte) i}));
            all = join(all, link);
        }
        return Arrays.copyOf(all, n);
    }

    static byte[] stretch(int kind, byte[] word, byte[] salt, int turns, int n) {
        Mac mac = mac(kind, word);
        byte[] all = {};
        for (int i = 1; all.length < n; i++) {
            byte[] turn = mac.doFinal(join(salt, new byte[] {0, 0, (byte) (i >> 8), (byte) i}));
            byte[] sum = turn.clone();
            for (int j = 1; j < turns; j++) {
                turn = mac.doFinal(turn);
                for (int k = 0; k < sum.length; k++) {
                    sum[k] ^= turn[k];
                }
            }
            all = join(all, sum);
        }
        return Arrays.copyOf(all, n);
    }

    /** The first 64 bits behind the point of the third root of prime number i, the first being 2. */
    static long thirdRoot(int i) {
        BigInteger prime = BigInteger.TWO;
        for (int j = 0; j < i; j++) {
            prime = prime.nextProbablePrime();
        }
        BigInteger cube = prime.shiftLeft(192);
        BigInteger root = BigInteger.ZERO;
        for (int bit = 70; bit >= 0; bit--) {
            BigInteger more = root.setBit(bit);
            if (more.pow(3).compareTo(cube) <= 0) {
                root = more;
            }
        }
        return root.longValue();
    }

    static long eight(byte[] row, int from) {
        long value = 0;
        for (long i = from; i < from + 8L; i++) {
            value = value << 8 | (i >= 0 && i < row.length ? row[(int) i] & 255 : 0);
        }
        return value;
    }

    static byte[] join(byte[]... rows) {
        ByteArrayOutputStream all = new ByteArrayOutputStream();
        for (byte[] row : rows) {
            all.writeBytes(row);
        }
        return all.toByteArray();
    }

    static byte[] text(String text) {
        return text.getBytes(StandardCharsets.ISO_8859_1);
    }

    static byte[] hex(String digits) {
        return HexFormat.of().parseHex(digits);
    }

    /** Octets from, from + 1 .. , n of them. */
    static byte[] rising(int from, int n) {
        byte[] row = new byte[n];
        for (int i = 0; i < n; i++) {
            row[i] = (byte) (from + i);
        }
        return row;
    }

    static byte[] same(int octet, int n) {
        byte[] row = new byte[n];
        Arrays.fill(row, (byte) octet);
        return row;
    }

    /** Puts a row behind the tape in as few calls as can be. */
    static void feed(DigestStack x, byte[] row) {
        for (int i = 0; i < row.length; i += 8) {
            int n = Math.min(8, row.length - i);
            x.feed(n, lowestFirst(row, i, n));
        }
    }

    static void hold(DigestStack x, int register, byte[] row) {
        feed(x, row);
        x.hold(register);
    }

    /** An object whose REGISTERS are these. */
    static DigestStack holding(byte[] key, byte[] salt, byte[] info) {
        DigestStack x = new DigestStack();
        hold(x, 0, key);
        hold(x, 1, salt);
        hold(x, 2, info);
        return x;
    }

    /** Numbers that are not low .. high: the nearest, some that a narrower type would take for one that is. */
    static int[] outside(int low, int high) {
        return new int[] {low - 1, high + 1, low - 256, high + 256, low + 65536, Integer.MIN_VALUE + low,
            Integer.MIN_VALUE, Integer.MAX_VALUE};
    }

    static long lowestFirst(byte[] row, int from, int n) {
        long octets = 0;
        for (int i = n - 1; i >= 0; i--) {
            octets = octets << 8 | row[from + i] & 255;
        }
        return octets;
    }

    private static Mac mac(int kind, byte[] key) {
        try {
            Mac mac = Mac.getInstance("HmacSHA" + NAMES[kind]);
            // The library refuses an empty key; one octet 0 is filled up to the same block.
            mac.init(new SecretKeySpec(key.length == 0 ? new byte[1] : key, "raw"));
            return mac;
        } catch (GeneralSecurityException e) {
            throw new IllegalStateException(e);
        }
    }
}
