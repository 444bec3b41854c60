/** Promises 1 to 7: a new object, append, parse, size, rate, currencyOf, product. */
public final class GroupTest {

    private static void text(String text, int due) {
        Check.same("parse of [" + text + "]", Ledgers.parse(new IntercompanyLedger(), text), due);
    }

    private static void error(String text, int offset, int kind) {
        text(text, Ledgers.error(offset, kind));
    }

    private static void newObject() {
        IntercompanyLedger x = new IntercompanyLedger();
        for (int what = 0; what <= 4; what++) {
            Check.same("new size " + what, x.size(what), 0);
        }
        for (int what = 0; what <= 7; what++) {
            Check.same("new total " + what, x.total(what), 0);
        }
        Check.noArgument("new parse(1)", () -> new IntercompanyLedger().parse(1));
        Check.noIndex("new rate", () -> x.rate(0));
        Check.noIndex("new currencyOf", () -> x.currencyOf(0));
        Check.noIndex("new product", () -> x.product(0, 0));
        Check.noIndex("new item", () -> x.item(0, 0));
        Check.noIndex("new gap", () -> x.gap(0));
        Check.noIndex("new position", () -> x.position(0));
        Check.noIndex("new book", () -> x.book(0, 1, 0, 0, 1));
        Check.noState("new net", x::net);
        Check.same("new undo", x.undo(), IntercompanyLedger.NONE);
        Check.same("new toleranceNeeded", x.toleranceNeeded(), IntercompanyLedger.NONE);
        Check.same("new directPayments", x.directPayments(), 0);
        Check.same("new fewestPayments", x.fewestPayments(), 0);
        Check.sameFloat("new matchRate", x.matchRate(), 0.0f);
        Check.same("new restore 0", x.restoreSnapshot(0), false);
        Check.same("new setTolerance", x.setTolerance(5), 0);
        Check.same("two objects are apart", new IntercompanyLedger().setTolerance(1), 0);
        Check.same("NONE", IntercompanyLedger.NONE, -1);
    }

    private static void append() {
        IntercompanyLedger x = new IntercompanyLedger();
        for (int i = 1; i <= 30; i++) {
            Check.same("append " + i, x.append(0x20202020, 0x0a0a0a0a, 0x20202020, 0x20202020, 0x20202020), 20 * i);
        }
        Check.same("append over 600", x.append(0, 0, 0, 0, 0), IntercompanyLedger.NONE);
        Check.noArgument("nothing was appended", () -> x.parse(601));
        Check.same("600 bytes of white space", x.parse(600), 0);
        Check.same("append after parse", x.append(-1, -1, -1, -1, -1), 20);
        // Each position of the twenty bytes is told apart by the number of spaces before a wrong byte.
        for (int at = 0; at < 20; at++) {
            String text = " ".repeat(at) + "A" + " ".repeat(19 - at);
            error(text, at, 1);
            error(" ".repeat(20) + text, 20 + at, 1);
        }
        IntercompanyLedger y = new IntercompanyLedger();
        y.append(0x66656520, 0x353b2020, 0x20202020, 0x20202020, 0x20202020);
        Check.same("most significant byte first", y.parse(20), 0);
        IntercompanyLedger z = new IntercompanyLedger();
        z.append(0x80202020, 0, 0, 0, 0);
        Check.same("a byte over 127", z.parse(20), Ledgers.error(0, 1));
    }

    private static void parseLength() {
        IntercompanyLedger x = new IntercompanyLedger();
        Ledgers.append(x, "currency 5;company 0;");
        Check.noArgument("parse(-1)", () -> x.parse(-1));
        Check.noArgument("parse(min)", () -> x.parse(Integer.MIN_VALUE));
        Check.noArgument("parse over the length", () -> x.parse(41));
        Check.noArgument("parse(max)", () -> x.parse(Integer.MAX_VALUE));
        Check.same("the buffer stayed", x.parse(21), 1);
        Check.noArgument("the buffer is empty after a success", () -> x.parse(1));
        Check.same("size 1", x.size(1), 1);
        Check.same("parse(0)", x.parse(0), 0);
        Check.same("the group was replaced", x.size(1) + x.size(0), 0);
        Ledgers.append(x, "currency 5;company 0;company 0;");
        Check.same("a part of the buffer", x.parse(21), 1);
        Ledgers.append(x, "x");
        Check.same("syntax error", x.parse(1), -3);
        Check.noArgument("the buffer is empty after an error", () -> x.parse(1));
        Check.same("size after an error", x.size(1), 1);
    }

    private static void cutTexts() {
        IntercompanyLedger x = new IntercompanyLedger();
        Ledgers.append(x, "fee 12;");
        Check.same("cut within a number", x.parse(5), Ledgers.error(5, 1));
        Ledgers.append(x, "fee 12;");
        Check.same("cut within a word", x.parse(2), Ledgers.error(0, 1));
        Ledgers.append(x, "currency 12345;");
        Check.same("cut before too many digits", x.parse(13), Ledgers.error(13, 1));
        Ledgers.append(x, " ".repeat(595) + "fee 1");
        Check.same("a number up to the last byte", x.parse(600), Ledgers.error(600, 1));
        Ledgers.append(x, " ".repeat(597) + "fee");
        Check.same("a word up to the last byte", x.parse(600), Ledgers.error(600, 1));
        Ledgers.append(x, "\n".repeat(594) + "fee 1;");
        Check.same("a full buffer", x.parse(600), 0);
    }

    private static void textAfterText() {
        IntercompanyLedger x = new IntercompanyLedger();
        String text = "currency 1;company 0;center 0;tolerance 1;fee 1;";
        Check.same("first", Ledgers.parse(x, text), 1);
        Check.same("second", Ledgers.parse(x, text), 1);
        Check.same("error", Ledgers.parse(x, text + "fee"), Ledgers.error(48, 2));
        Check.same("after an error", Ledgers.parse(x, text), 1);
        Check.same("error in a product", Ledgers.parse(x, "currency 1;company 0;product 0 1 0 0;x"), Ledgers.error(37, 1));
        Check.same("after it", Ledgers.parse(x, "currency 2;company 0;company 0;product 1 5 0 0;"), 2);
        Check.same("currencies", x.size(0), 1);
        Check.same("products", x.size(2), 1);
        Check.same("rate", x.rate(0), 2);
        Check.same("maker", x.product(0, 0), 1);
    }

    private static void goodTexts() {
        text("", 0);
        text("  \n ", 0);
        text("currency 1;company 0;", 1);
        text("currency1;company0;company0;", 2);
        text("\n currency\n0001\n;\n company 0 ; ", 1);
        text("currency 9999;company 0;product 0 9999 99 999;", 1);
        text("currency 1;company 0;product 0 1 0 0;", 1);
        text("currency 1;company 0;product 0 1 99 99;center 0;", 1);
        text("tolerance 0;fee 0;", 0);
        text("tolerance 9999;fee 9999;", 0);
        text("currency 1;currency 2;currency 3;currency 4;" + "company 3;".repeat(6)
                + "product 5 1 0 0;".repeat(6) + "center 5;", 6);
    }

    private static void syntaxErrors() {
        error(";", 0, 1);
        error("7", 0, 1);
        error("fees 1;", 0, 1);
        error("fe 1;", 0, 1);
        error("Fee 1;", 0, 1);
        error("tolerances 1;", 0, 1);
        error("currency", 8, 1);
        error("currency  ", 10, 1);
        error("currency 1", 10, 1);
        error("currency 1 \n", 12, 1);
        error("currency;", 8, 1);
        error("currency 1;;", 11, 1);
        error("currency 1 2;", 11, 1);
        error("currency 1 fee;", 11, 1);
        error("currency fee;", 9, 1);
        error("currency 12345;", 9, 1);
        error("currency 00001;", 9, 1);
        error("currency 1,", 10, 1);
        error("currency 1\t;", 10, 1);
        error("currency -1;", 9, 1);
        error("currency 1;company 0;product 0 1 0;", 34, 1);
        error("currency 1;company 0;product 0 1 0 0 0;", 37, 1);
        error("fee 1;fee 2;x", 6, 2);
        error("fee 1;x;fee 2;", 6, 1);
        error("fee fee 1;", 4, 1);
        error("fee 1\u0000;", 5, 1);
        error("fee 1{;", 5, 1);
        error("fee 1`;", 5, 1);
        error("fee 1/;", 5, 1);
        error("fee 1:;", 5, 1);
        error("currency 1;" + "x".repeat(200), 11, 1);
    }

    private static void repeated() {
        error("tolerance 1;tolerance 1;", 12, 2);
        error("fee 1; fee 1;", 7, 2);
        error("currency 1;company 0;center 0;center 0;", 30, 2);
        error("fee 1;tolerance 1;fee", 18, 2);
        text("fee 1;tolerance 1;", 0);
    }

    private static void ranges() {
        error("currency 0;", 9, 3);
        error("currency 0", 9, 3);
        error("company 0;", 8, 3);
        error("currency 1;company 1;", 19, 3);
        error("currency 1;product 0 1 0 0;", 19, 3);
        error("center 0;", 7, 3);
        error("currency 1;company 0;center 1;", 28, 3);
        error("center 0;currency 1;company 0;", 7, 3);
        error("currency 1;company 0;product 1 1 0 0;", 29, 3);
        error("currency 1;company 0;product 0 0 0 0;", 31, 3);
        error("currency 1;company 0;product 0 1 100 100;", 33, 3);
        error("currency 1;company 0;product 0 1 50 49;", 36, 3);
        error("currency 1;company 0;product 0 1 0 1000;", 35, 3);
        error("currency 1;company 0;product 0 0 999 0;", 31, 3);
    }

    private static void tooMany() {
        error("currency 1;".repeat(5), 44, 4);
        error("currency 1;".repeat(4) + "currency", 44, 4);
        error("currency 1;" + "company 0;".repeat(7), 71, 4);
        error("currency 1;company 0;" + "product 0 1 0 0;".repeat(7), 117, 4);
        error("currency 1;".repeat(4) + "x;currency 1;", 44, 1);
        text("currency 1;" + "company 0;".repeat(6), 6);
        text("currency 1;company 0;" + "product 0 1 0 0;".repeat(6), 1);
    }

    private static void errorKeepsEverything() {
        IntercompanyLedger x = Ledgers.of(Ledgers.THREE);
        x.book(0, 1, 0, 5, 100);
        x.saveSnapshot(1);
        x.setRate(0, 200);
        Check.same("error", Ledgers.parse(x, "currency 7;company 0;tolerance 3;fee 4;x"), Ledgers.error(39, 1));
        Check.same("currencies", x.size(0), 2);
        Check.same("companies", x.size(1), 3);
        Check.same("products", x.size(2), 1);
        Check.same("items", x.size(3), 1);
        Check.same("rate", x.rate(0), 200);
        Check.same("rate of the other", x.rate(1), 50);
        Check.same("cost", x.product(0, 1), 100);
        Check.same("tolerance", x.setTolerance(20), 20);
        Check.same("undo", x.undo(), 2);
        Check.same("undo", x.undo(), 1);
        Check.same("rate", x.rate(0), 100);
        Check.same("slot", x.restoreSnapshot(1), true);
    }

    private static void successClears() {
        IntercompanyLedger x = Ledgers.of(Ledgers.THREE);
        x.book(0, 1, 0, 5, 1000);
        x.book(1, 0, 1, 5, 1990);
        x.match();
        x.net();
        x.deliver(0, 0, 1, 5, 150);
        x.sell(1, 0, 1, 200);
        x.setRate(1, 77);
        x.setTolerance(500);
        x.saveSnapshot(0);
        x.saveSnapshot(1);
        Check.same("fees before", x.total(5), 14);
        Check.same("parse again", Ledgers.parse(x, "currency 3;company 0;company 0;"), 2);
        for (int what = 0; what <= 7; what++) {
            Check.same("total " + what, x.total(what), 0);
        }
        Check.same("items", x.size(3), 0);
        Check.same("deliveries", x.size(4), 0);
        Check.same("products", x.size(2), 0);
        Check.same("settledPosition", x.settledPosition(0), 0);
        Check.same("settledPosition", x.settledPosition(1), 0);
        Check.same("rate", x.rate(0), 3);
        Check.same("undo", x.undo(), IntercompanyLedger.NONE);
        Check.same("slot 0", x.restoreSnapshot(0), false);
        Check.same("slot 1", x.restoreSnapshot(1), false);
        Check.same("tolerance without a statement", x.setTolerance(1), 0);
        Ledgers.parse(x, "currency 3;company 0;company 0;company 0;");
        x.book(1, 2, 0, 1, 1000);
        x.book(2, 1, 1, 1, 1000);
        x.match();
        Check.same("the center without a statement is company 0", x.net(), 2);
        Check.same("the fee without a statement", x.total(5), 0);
    }

    private static void sizes() {
        IntercompanyLedger x = Ledgers.of(Ledgers.THREE);
        Check.same("size 0", x.size(0), 2);
        Check.same("size 1", x.size(1), 3);
        Check.same("size 2", x.size(2), 1);
        Check.same("size 3", x.size(3), 0);
        x.book(0, 1, 0, 5, 1000);
        x.book(0, 1, 0, 5, 1000);
        x.cancel(0);
        x.deliver(0, 0, 1, 5, 150);
        Check.same("size 3", x.size(3), 2);
        Check.same("size 4", x.size(4), 1);
        Check.noArgument("size -1", () -> x.size(-1));
        Check.noArgument("size 5", () -> x.size(5));
        Check.noArgument("size max", () -> x.size(Integer.MAX_VALUE));
    }

    private static void rates() {
        IntercompanyLedger x = Ledgers.of(Ledgers.THREE);
        Check.same("rate 0", x.rate(0), 100);
        Check.same("rate 1", x.rate(1), 50);
        x.setRate(1, 60);
        Check.same("rate 1 anew", x.rate(1), 60);
        Check.noIndex("rate -1", () -> x.rate(-1));
        Check.noIndex("rate 2", () -> x.rate(2));
        Check.noIndex("rate max", () -> x.rate(Integer.MAX_VALUE));
        Check.same("currencyOf 0", x.currencyOf(0), 0);
        Check.same("currencyOf 1", x.currencyOf(1), 1);
        Check.same("currencyOf 2", x.currencyOf(2), 0);
        Check.noIndex("currencyOf -1", () -> x.currencyOf(-1));
        Check.noIndex("currencyOf 3", () -> x.currencyOf(3));
        Check.noIndex("currencyOf min", () -> x.currencyOf(Integer.MIN_VALUE));
    }

    private static void products() {
        IntercompanyLedger x = Ledgers.of("currency 1;company 0;company 0;product 1 199 1 50;product 0 9999 99 999;");
        Check.same("maker", x.product(0, 0), 1);
        Check.same("cost", x.product(0, 1), 199);
        Check.same("lower bound truncates", x.product(0, 2), 200);
        Check.same("upper bound truncates", x.product(0, 3), 298);
        Check.same("maker 1", x.product(1, 0), 0);
        Check.same("cost 1", x.product(1, 1), 9999);
        Check.same("lower bound 1", x.product(1, 2), 19898);
        Check.same("upper bound 1", x.product(1, 3), 109889);
        Check.noIndex("product 2", () -> x.product(2, 0));
        Check.noIndex("product -1", () -> x.product(-1, 0));
        Check.noIndex("product is checked first", () -> x.product(2, 4));
        Check.noArgument("what 4", () -> x.product(0, 4));
        Check.noArgument("what -1", () -> x.product(1, -1));
    }

    public static void main(String[] args) {
        newObject();
        append();
        parseLength();
        cutTexts();
        textAfterText();
        goodTexts();
        syntaxErrors();
        repeated();
        ranges();
        tooMany();
        errorKeepsEverything();
        successClears();
        sizes();
        rates();
        products();
        Check.end();
    }
}
