/** Puts texts into ledgers. */
final class Ledgers {

    /** Three companies; the currency of company 1 has rate 50. */
    static final String THREE = "currency 100;currency 50;company 0;company 1;company 0;"
            + "product 0 100 10 30;tolerance 20;center 2;fee 7;";

    private Ledgers() {
    }

    static int word(byte[] bytes, int at) {
        int word = 0;
        for (int i = at; i < at + 4; i++) {
            word = word << 8 | (i < bytes.length ? bytes[i] & 255 : 0);
        }
        return word;
    }

    /** Appends a text, filled up with zero bytes to a multiple of twenty; answers its length. */
    static int append(IntercompanyLedger ledger, String text) {
        byte[] bytes = text.getBytes(java.nio.charset.StandardCharsets.ISO_8859_1);
        for (int at = 0; at < bytes.length; at += 20) {
            ledger.append(word(bytes, at), word(bytes, at + 4), word(bytes, at + 8),
                    word(bytes, at + 12), word(bytes, at + 16));
        }
        return bytes.length;
    }

    static int parse(IntercompanyLedger ledger, String text) {
        return ledger.parse(append(ledger, text));
    }

    static IntercompanyLedger of(String text) {
        IntercompanyLedger ledger = new IntercompanyLedger();
        int answer = parse(ledger, text);
        if (answer < 0) {
            throw new AssertionError("the text of the test has an error: " + answer);
        }
        return ledger;
    }

    /** What parse answers for an error. */
    static int error(int offset, int kind) {
        return -2 - (8 * offset + kind);
    }
}
