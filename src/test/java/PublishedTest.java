/** Digests, codes and keys as published, which need no reference (promises 4, 5, 7, 12, 13 and 14). */
public final class PublishedTest {
    private static final Checks CHECKS = new Checks("published");

    public static void main(String[] args) {
        digests();
        codes();
        drawnAndSpreadKeys();
        stretchedWords();
        CHECKS.end();
    }

    private static void digests() {
        String[] digests = {
            "23097d223405d8228642a477bda255b32aadbce4bda0b3f7e36c9da7",
            "ba7816bf8f01cfea414140de5dae2223b00361a396177a9cb410ff61f20015ad",
            "cb00753f45a35e8bb5a03d699ac65007272c32ab0eded1631a8b605a43ff5bed"
                + "8086072ba1e7cc2358baeca134c825a7",
            "ddaf35a193617abacc417349ae20413112e6fa4e89a97ea20a9eeee64b55d39a"
                + "2192992a274fc1a836ba3c23a3feebbd454d4423643ce80e2a9ac94fa54ca49f"};
        for (int kind = 0; kind < 4; kind++) {
            int k = kind;
            DigestStack x = new DigestStack();
            x.begin(3, k);
            Reference.feed(x, Reference.text("abc"));
            CHECKS.due("update by abc", 3L, () -> x.update(3));
            CHECKS.due("finish of abc", Reference.DIGESTS[k], () -> x.finish(3));
            CHECKS.dueOut("digest of abc", Reference.hex(digests[k]), x);
        }
    }

    private static void codes() {
        String[] codes = {
            "a30e01098bc6dbbf45690f3a7e9e6d0f8bbea2a39e6148008fd05e44",
            "5bdcc146bf60754e6a042426089575c75a003f089d2739839dec58b964ec3843",
            "af45d2e376484031617f78d2b58a6b1b9c7ef464f5a01b47e42ec3736322445e"
                + "8e2240ca5e69e2c78b3239ecfab21649",
            "164b7a7bfcf819e2e395fbe73b56e0a387bd64222e831fd610270cd7ea250554"
                + "9758bf75c05a994a6d034f65f8f0e6fdcaeab1a34d4a6b4b636e070a38bce737"};
        for (int kind = 0; kind < 4; kind++) {
            int k = kind;
            DigestStack x = new DigestStack();
            Reference.feed(x, Reference.text("Jefe"));
            CHECKS.due("code by Jefe", 4, () -> x.code(2, k));
            Reference.feed(x, Reference.text("what do ya want for nothing?"));
            CHECKS.due("update of a code", 28L, () -> x.update(2));
            CHECKS.due("finish of a code", Reference.DIGESTS[k], () -> x.finish(2));
            CHECKS.dueOut("code by Jefe", Reference.hex(codes[k]), x);
        }
    }

    private static void drawnAndSpreadKeys() {
        DigestStack x = Reference.holding(
                Reference.same(11, 22), Reference.rising(0, 13), Reference.rising(0xf0, 10));
        CHECKS.due("draw", 32, () -> x.draw(1));
        CHECKS.dueOut("draw", Reference.hex("077709362c2e32df0ddc3f0dc47bba63"
                + "90b6c73bb50f9c3122ec844ad7c2b3e5"), x);
        x.keep(0);
        CHECKS.due("spread", 42, () -> x.spread(1, 42));
        CHECKS.dueOut("spread", Reference.hex("3cb25f25faacd57a90434f64d0362f2a"
                + "2d2d0a90cf1a5a4c5db02d56ecc4c5bf34007208d5b887185865"), x);
    }

    private static void stretchedWords() {
        DigestStack x = Reference.holding(Reference.text("password"), Reference.text("salt"), new byte[0]);
        CHECKS.due("stretch in one turn", 32, () -> x.stretch(1, 1, 32));
        CHECKS.dueOut("stretch in one turn", Reference.hex(
                "120fb6cffcf8b32c43e7225256c4f837a86548c92ccc35480805987cb70be17b"), x);
        CHECKS.due("stretch in two turns", 32, () -> x.stretch(1, 2, 32));
        CHECKS.dueOut("stretch in two turns", Reference.hex(
                "ae4d0c95af6b46d32d0adff928f06dd02a303f8ef3c251dfd6e2d85a95474c43"), x);
    }
}
