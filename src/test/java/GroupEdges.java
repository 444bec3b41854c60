/** Boundary cases of promises 1 to 7 and of GROUP TEXT: a test for each sentence that names one. */
final class GroupEdges {

    private static final int NONE = IntercompanyLedger.NONE;
    private static final int TEXT = Document.DESCRIPTION;
    private static final int SPACES = 0x20202020;

    /** The largest group that a text can declare. */
    private static final String LARGEST = "currency 1;currency 2;currency 3;currency 4;"
            + "company 3;company 2;company 1;company 0;company 0;company 1;"
            + "product 5 1 0 0;product 4 2 0 0;product 3 3 0 0;product 2 4 0 0;product 1 5 0 0;product 0 6 0 0;"
            + "tolerance 8;center 5;fee 9;";

    private GroupEdges() {
    }

    private static void good(String text, int companies) {
        Check.same("parse of [" + text + "]", Ledgers.parse(new IntercompanyLedger(), text), companies);
    }

    private static void bad(String text, int offset, int kind) {
        Check.same("parse of [" + text + "]", Ledgers.parse(new IntercompanyLedger(), text), Ledgers.error(offset, kind));
    }

    private static IntercompanyLedger fullBuffer(String text) {
        IntercompanyLedger x = new IntercompanyLedger();
        Ledgers.append(x, text + " ".repeat(600 - text.length()));
        return x;
    }

    // ---- promise 1

    private static void newObject() {
        Document.says(1, "without currencies, companies and products, with an empty input buffer");
        IntercompanyLedger x = new IntercompanyLedger();
        Check.noSuch("rate", 0, x::rate);
        Check.noSuch("currencyOf", 0, x::currencyOf);
        Check.noSuch("product", 0, product -> x.product(product, 0));
        Check.same("currencies", x.size(0), 0);
        Check.same("companies", x.size(1), 0);
        Check.same("products", x.size(2), 0);
        Check.noArgument("the buffer has no byte", () -> x.parse(1));
        Check.same("the first append", x.append(0, 0, 0, 0, 0), 20);
        Check.same("nothing of the buffer is read", new IntercompanyLedger().parse(0), 0);
    }

    // ---- promise 2

    private static void orderOfBytes() {
        Document.says(2, "each with the most significant byte first");
        for (int at = 0; at < 20; at++) {
            int[] words = {SPACES, SPACES, SPACES, SPACES, SPACES};
            words[at / 4] = SPACES & ~(255 << 24 - 8 * (at % 4)) | 255 << 24 - 8 * (at % 4);
            IntercompanyLedger x = new IntercompanyLedger();
            x.append(words[0], words[1], words[2], words[3], words[4]);
            Check.same("byte 255 at " + at, x.parse(20), Ledgers.error(at, 1));
        }
        IntercompanyLedger x = new IntercompanyLedger();
        x.append(0x63757272, 0x656e6379, 0x20373b63, 0x6f6d7061, 0x6e793020);
        Check.same("the next twenty", x.append(0x3b202020, SPACES, SPACES, SPACES, SPACES), 40);
        Check.same("currency 7;company0 ;", x.parse(40), 1);
        Check.same("rate", x.rate(0), 7);
    }

    private static void fullBuffer() {
        Document.says(2, "NONE, with nothing appended, if the buffer would have more than 600 bytes");
        IntercompanyLedger x = new IntercompanyLedger();
        for (int length = 20; length <= 600; length += 20) {
            Check.same("append", x.append(SPACES, SPACES, SPACES, SPACES, SPACES), length);
        }
        Check.same("the buffer is full", x.append(-1, -1, -1, -1, -1), NONE);
        Check.same("it stays full", x.append(-1, -1, -1, -1, -1), NONE);
        Check.noArgument("nothing was appended", () -> x.parse(601));
        Check.noArgument("nothing was appended", () -> x.parse(620));
        Check.same("nothing was overwritten", x.parse(600), 0);
        Check.same("there is room again", x.append(0, 0, 0, 0, 0), 20);
        IntercompanyLedger y = fullBuffer("x");
        Check.same("full", y.append(SPACES, SPACES, SPACES, SPACES, SPACES), NONE);
        Check.same("the first byte stands", y.parse(600), Ledgers.error(0, 1));
    }

    private static void sixHundredBytes() {
        Document.says(TEXT, "The input buffer holds at most 600 bytes.");
        IntercompanyLedger x = new IntercompanyLedger();
        int length = 0;
        for (int time = 0; time < 40; time++) {
            length = Math.max(length, x.append(SPACES, SPACES, SPACES, SPACES, SPACES));
        }
        Check.same("the most", length, 600);
        Check.noArgument("more than the most", () -> x.parse(601));
        Check.same("all of them", x.parse(600), 0);
    }

    private static void lastPlace() {
        Document.says(2, "Returns the new length of the buffer");
        IntercompanyLedger x = new IntercompanyLedger();
        Ledgers.append(x, " ".repeat(580));
        Check.same("just full", x.append(0x66656520, 0x393b2020, SPACES, SPACES, 0x20202078), 600);
        Check.same("the last byte", x.parse(600), Ledgers.error(599, 1));
    }

    // ---- promise 3

    private static void bytesBehindLength() {
        Document.says(3, "Parses the first length bytes of the input buffer as a group and replaces the current one by it.");
        IntercompanyLedger x = Ledgers.of(LARGEST);
        Ledgers.append(x, "currency 8;company 0;!");
        Check.same("the byte behind is not read", x.parse(21), 1);
        Check.same("currencies", x.size(0), 1);
        Check.same("products", x.size(2), 0);
        Check.same("rate", x.rate(0), 8);
        Ledgers.append(x, "currency 12345;");
        Check.same("a run ends at the length", x.parse(13), Ledgers.error(13, 1));
        Ledgers.append(x, "tolerances");
        Check.same("a run ends at the length", x.parse(9), Ledgers.error(9, 1));
    }

    private static void shortestAndLongest() {
        Document.says(3, "number of bytes, 0 to the length of the buffer");
        IntercompanyLedger x = Ledgers.of(LARGEST);
        Ledgers.append(x, "!");
        Check.same("no byte", x.parse(0), 0);
        for (int what = 0; what <= 4; what++) {
            Check.same("an empty group " + what, x.size(what), 0);
        }
        Check.same("no byte of an empty buffer", x.parse(0), 0);
        Check.same("all of a full buffer", fullBuffer(LARGEST).parse(600), 6);
        x.append(SPACES, SPACES, SPACES, SPACES, SPACES);
        Check.same("all of the buffer", x.parse(20), 0);
    }

    private static void leastAndGreatestAnswers() {
        Document.says(3, "Returns the number of companies; -2 - (8 * offset + kind) for a syntax error.");
        good("currency 1;", 0);
        good(LARGEST, 6);
        Check.same("offset 0, kind 1", Ledgers.parse(new IntercompanyLedger(), "!"), -3);
        Check.same("offset 6, kind 2", Ledgers.parse(new IntercompanyLedger(), "fee 1;fee 1;"), -52);
        Check.same("offset 9, kind 3", Ledgers.parse(new IntercompanyLedger(), "currency 0;"), -77);
        Check.same("offset 44, kind 4", Ledgers.parse(new IntercompanyLedger(), "currency 1;".repeat(5)), -358);
        Check.same("offset 600", fullBuffer("fee").parse(600), -4803);
        Check.same("offset 599", Ledgers.parse(new IntercompanyLedger(), " ".repeat(599) + "!"), -4795);
    }

    private static void emptyBufferAfterwards() {
        Document.says(3, "After a success or a syntax error the buffer is empty.");
        IntercompanyLedger x = new IntercompanyLedger();
        Ledgers.append(x, "currency 1;company 0;company 0;");
        Check.same("a success with bytes left over", x.parse(21), 1);
        Check.noArgument("none is left over", () -> x.parse(1));
        Check.same("the next bytes are the first", Ledgers.parse(x, "fee 1;"), 0);
        Ledgers.append(x, "!                   fee 1;");
        Check.same("an error with bytes left over", x.parse(1), -3);
        Check.noArgument("none is left over", () -> x.parse(1));
        Check.same("the next bytes are the first", x.append(0, 0, 0, 0, 0), 20);
        IntercompanyLedger y = fullBuffer("!");
        y.parse(0);
        Check.same("empty after no byte was read", y.append(0, 0, 0, 0, 0), 20);
    }

    private static void errorKeepsAllElse() {
        Document.says(3, "After a syntax error everything else stays as it is.");
        for (String text : new String[] {"!", LARGEST + "!", LARGEST + "fee", LARGEST + "company", "currency 3;company 0;product 0 1 2 1;"}) {
            IntercompanyLedger x = Twins.busy();
            x.parse(20);
            Check.same("error", Ledgers.parse(x, text) < -2, true);
            Ledgers.append(x, "currency 7;company 0;");
            Twins.alike("a syntax error in [" + text + "]", x, Twins.busy());
        }
    }

    private static void errorKeepsCenterAndFee() {
        Document.says(3, "After a syntax error everything else stays as it is.");
        IntercompanyLedger x = Twins.busy();
        x.parse(20);
        Ledgers.parse(x, "currency 9;company 0;product 0 7 0 0;tolerance 1;center 0;fee 1;!");
        Check.same("cost", x.product(0, 1), 100);
        Check.same("bound", x.product(0, 2), 110);
        Check.same("payments by the old center", x.net(), 2);
        Check.same("fees by the old fee", x.total(5), 28);
    }

    private static void lengthOutOfRange() {
        Document.says(3, "if length is out of range (the buffer stays as it is)");
        IntercompanyLedger x = new IntercompanyLedger();
        Check.outOfRange("parse with an empty buffer", 0, 0, x::parse);
        Ledgers.append(x, "currency 1;company 0;");
        Check.outOfRange("parse", 0, 40, x::parse);
        Check.same("the buffer stays", x.append(0, 0, 0, 0, 0), 60);
        Check.same("the text stays", x.parse(21), 1);
        IntercompanyLedger y = fullBuffer(LARGEST);
        Check.outOfRange("parse with a full buffer", 0, 600, y::parse);
        Check.same("the full buffer stays", y.parse(600), 6);
        Twins.unchanged("parse(-1)", z -> z.parse(-1));
        Twins.unchanged("parse(41)", z -> z.parse(41));
    }

    // ---- promise 4

    private static void emptyAndFullSizes() {
        Document.says(4, "0 currencies, 1 companies, 2 products, 3 items, 4 deliveries");
        Document.says(4, "Returns a number of things.");
        IntercompanyLedger x = Ledgers.of(LARGEST);
        int[] before = {4, 6, 6, 0, 0};
        for (int what = 0; what <= 4; what++) {
            Check.same("size " + what, x.size(what), before[what]);
        }
        for (int i = 0; i < 100; i++) {
            x.book(0, 1, 0, 0, 1);
        }
        Check.same("all items", x.size(3), 100);
        Check.same("no delivery", x.size(4), 0);
        for (int i = 0; i < 100; i++) {
            x.deliver(0, 5, 0, 1, 1);
        }
        Check.same("all deliveries", x.size(4), 100);
        x.cancel(0);
        x.sell(0, 0, 100, 1);
        Check.same("a cancelled item is an item", x.size(3), 100);
        Check.same("a delivery stays when its lot is gone", x.size(4), 100);
    }

    private static void sizeOutOfRange() {
        Document.says(4, "if what is out of range");
        IntercompanyLedger x = Ledgers.of(LARGEST);
        Check.outOfRange("size", 0, 4, x::size);
        Check.outOfRange("size of a new object", 0, 4, new IntercompanyLedger()::size);
    }

    // ---- promises 5 to 7

    private static void rates() {
        Document.says(5, "Returns its present rate.");
        IntercompanyLedger x = Ledgers.of("currency 1;currency 9999;");
        Check.same("the lowest", x.rate(0), 1);
        Check.same("the highest", x.rate(1), 9999);
        x.setRate(0, 9999);
        x.setRate(1, 1);
        Check.same("the highest", x.rate(0), 9999);
        Check.same("the lowest", x.rate(1), 1);
        x.undo();
        Check.same("undone", x.rate(1), 9999);
    }

    private static void noSuchCurrency() {
        Document.says(5, "if there is no such currency");
        Check.noSuch("rate of one", 1, Ledgers.of("currency 1;")::rate);
        Check.noSuch("rate of four", 4, Ledgers.of(LARGEST)::rate);
        Check.noSuch("rate of none", 0, Ledgers.of("")::rate);
        Check.same("the last", Ledgers.of(LARGEST).rate(3), 4);
    }

    private static void currencies() {
        Document.says(6, "Returns its currency.");
        IntercompanyLedger x = Ledgers.of(LARGEST);
        int[] due = {3, 2, 1, 0, 0, 1};
        for (int company = 0; company < 6; company++) {
            Check.same("currencyOf " + company, x.currencyOf(company), due[company]);
        }
    }

    private static void noSuchCompany() {
        Document.says(6, "if there is no such company");
        Check.noSuch("currencyOf of one", 1, Ledgers.of("currency 1;currency 2;company 0;")::currencyOf);
        Check.noSuch("currencyOf of six", 6, Ledgers.of(LARGEST)::currencyOf);
        Check.noSuch("currencyOf of none", 0, Ledgers.of("currency 1;")::currencyOf);
    }

    private static void products() {
        Document.says(7, "0: its maker; 1: its cost; 2: the lower bound of its band; 3: the upper bound");
        Document.says(7, "Returns the property.");
        IntercompanyLedger x = Ledgers.of("currency 1;company 0;company 0;product 0 1 0 0;product 1 9999 99 999;"
                + "product 1 1 99 99;product 0 1 99 100;product 0 199 50 51;product 1 100 0 999;");
        int[][] due = {{0, 1, 1, 1}, {1, 9999, 19898, 109889}, {1, 1, 1, 1}, {0, 1, 1, 2}, {0, 199, 298, 300}, {1, 100, 100, 1099}};
        for (int product = 0; product < 6; product++) {
            for (int what = 0; what <= 3; what++) {
                Check.same("product " + product + " " + what, x.product(product, what), due[product][what]);
            }
        }
    }

    private static void bands() {
        Document.says(TEXT, "The band of a product goes from cost + cost * low / 100 to cost + cost * high / 100.");
        IntercompanyLedger x = Ledgers.of("currency 1;company 0;product 0 100 0 0;product 0 100 99 99;product 0 100 0 999;"
                + "product 0 9999 99 999;");
        int[][] due = {{100, 100}, {199, 199}, {100, 1099}, {19898, 109889}};
        for (int product = 0; product < 4; product++) {
            Check.same("lower bound " + product, x.product(product, 2), due[product][0]);
            Check.same("upper bound " + product, x.product(product, 3), due[product][1]);
        }
    }

    private static void truncation() {
        Document.says(TEXT, "All divisions truncate toward 0.");
        IntercompanyLedger x = Ledgers.of("currency 99;currency 7;company 0;company 1;product 0 1 99 99;product 0 199 1 99;");
        Check.same("a bound of 1.99", x.product(0, 2), 1);
        Check.same("a bound of 200.99", x.product(1, 2), 200);
        Check.same("a bound of 396.01", x.product(1, 3), 396);
        x.book(0, 1, 0, 1, 1);
        x.book(0, 1, 0, 2, 101);
        x.book(1, 0, 1, 2, 1);
        Check.same("a value of 0.99", x.value(0), 0);
        Check.same("a value of 99.99", x.value(1), 99);
        x.match();
        Check.same("an amount of 1414.28", x.accept(1), 1414);
        Check.same("a value of 98.98", x.value(2), 98);
    }

    private static void noSuchProduct() {
        Document.says(7, "if there is no such product (checked first)");
        IntercompanyLedger x = Ledgers.of(LARGEST);
        Check.noSuch("product", 6, product -> x.product(product, 0));
        Check.noSuch("product, with a wrong what", 6, product -> x.product(product, 4));
        Check.noSuch("product, with a wrong what", 6, product -> x.product(product, -1));
        Check.noSuch("product of none", 0, product -> new IntercompanyLedger().product(product, 0));
    }

    private static void productOutOfRange() {
        Document.says(7, "if what is out of range");
        IntercompanyLedger x = Ledgers.of(LARGEST);
        Check.outOfRange("product 0", 0, 3, what -> x.product(0, what));
        Check.outOfRange("product 5", 0, 3, what -> x.product(5, what));
    }

    // ---- group text

    private static void whiteSpace() {
        Document.says(TEXT, "Bytes 32 (space) and 10 (line feed) are white space");
        good("\n \n", 0);
        good("\n currency \n\n 1 \n ; \n company\n0\n;\n", 1);
        good("currency1;company0;", 1);
        bad("fe e 1;", 0, 1);
        bad("fee 1 0;", 6, 1);
        bad("fee 1; ;", 7, 1);
        for (int other : new int[] {0, 9, 11, 13, 31, 33, 127, 160, 255}) {
            bad("fee" + (char) other + "1;", 3, 1);
            bad("" + (char) other, 0, 1);
        }
    }

    private static void longestTokens() {
        Document.says(TEXT, "A token is a word (a maximal run of lower-case letters a to z, 1 to 9 letters long)");
        good("tolerance 0;", 0);
        good("tolerance 0000;", 0);
        good("tolerance9999;", 0);
        bad("tolerance 1;a", 12, 1);
        bad("tolerance 1;abcdefghi", 12, 1);
        bad("tolerance 1a;", 11, 1);
        bad("tolerance z;", 10, 1);
        bad("tolerance a;", 10, 1);
        bad("tolerance;", 9, 1);
        good("currency 0009;company 0000;", 1);
        good("currency 1;currency 2;company 01;", 1);
    }

    private static void illegalTokens() {
        Document.says(TEXT, "Any other byte, and any longer run, is an illegal token that starts at its first byte.");
        bad("  tolerancee 1;", 2, 1);
        bad("tolerance 10000;", 10, 1);
        bad("tolerance 00000;", 10, 1);
        bad("fee 1;" + "a".repeat(594), 6, 1);
        bad("fee " + "0".repeat(596), 4, 1);
        for (char other : "/:`{@[AZ-+.,_".toCharArray()) {
            bad("fee 1" + other + ";", 5, 1);
            bad("fee" + other + "1;", 3, 1);
            bad("fee 1;" + other, 6, 1);
            bad("fe" + other + " 1;", 0, 1);
        }
    }

    private static void wholeStatements() {
        Document.says(TEXT, "group     = { statement \";\" }");
        good("", 0);
        good("fee 1;", 0);
        bad("fee 1", 5, 1);
        bad(";", 0, 1);
        bad("fee 1;;", 6, 1);
        bad(";fee 1;", 0, 1);
        bad("fee 1 tolerance 1;", 6, 1);
    }

    private static void formsOfStatements() {
        Document.says(TEXT, "statement = ");
        Document.says(TEXT, "All unquoted items are numbers.");
        for (String word : new String[] {"currency", "tolerance", "fee"}) {
            int length = word.length();
            good(word + " 1;", 0);
            bad(word + ";", length, 1);
            bad(word + " 1 1;", length + 3, 1);
            bad(word + " fee;", length + 1, 1);
        }
        String start = "currency 1;company 0;";
        bad(start + "company;", 28, 1);
        bad(start + "company 0 0;", 31, 1);
        bad(start + "company currency;", 29, 1);
        bad(start + "center;", 27, 1);
        bad(start + "center 0 0;", 30, 1);
        bad(start + "center company;", 28, 1);
        bad(start + "product;", 28, 1);
        bad(start + "product 0;", 30, 1);
        bad(start + "product 0 1;", 32, 1);
        bad(start + "product 0 1 0;", 34, 1);
        good(start + "product 0 1 0 0;", 1);
        bad(start + "product 0 1 0 0 0;", 37, 1);
        bad("rate 1;", 0, 1);
        bad("curren 1;", 0, 1);
        bad("currencyy 1;", 0, 1);
    }

    private static void orderOfTheText() {
        Document.says(TEXT, "Currencies, companies and products are numbered from 0, each in the order of the text.");
        IntercompanyLedger x = Ledgers.of("currency 5;company 0;product 0 11 0 0;currency 6;company 1;product 1 22 0 0;company 0;");
        Check.same("rate 0", x.rate(0), 5);
        Check.same("rate 1", x.rate(1), 6);
        Check.same("currency of 0", x.currencyOf(0), 0);
        Check.same("currency of 1", x.currencyOf(1), 1);
        Check.same("currency of 2", x.currencyOf(2), 0);
        Check.same("cost 0", x.product(0, 1), 11);
        Check.same("cost 1", x.product(1, 1), 22);
    }

    private static void mostStatements() {
        Document.says(TEXT, "There are at most 4 currencies, 6 companies and 6 products; each of the last three statements can occur once.");
        good("currency 1;".repeat(4), 0);
        good("currency 1;" + "company 0;".repeat(6), 6);
        good("currency 1;company 0;" + "product 0 1 0 0;".repeat(6), 1);
        good(LARGEST, 6);
        good("currency 1;company 0;fee 0;center 0;tolerance 0;", 1);
    }

    private static void rangeOfRate() {
        Document.says(TEXT, "Ranges: rate 1 to 9999");
        good("currency 1;", 0);
        good("currency 9999;", 0);
        bad("currency 0;", 9, 3);
        bad("currency 0000;", 9, 3);
        bad("currency 10000;", 9, 1);
    }

    private static void rangeOfCurrency() {
        Document.says(TEXT, "currency and company the number of one that was declared before");
        bad("company 0;", 8, 3);
        bad("company 0;currency 1;", 8, 3);
        good("currency 1;company 0;", 1);
        bad("currency 1;company 1;currency 1;", 19, 3);
        good("currency 1;".repeat(4) + "company 3;", 1);
        bad("currency 1;".repeat(4) + "company 4;", 52, 3);
        bad("currency 1;company 9999;", 19, 3);
    }

    private static void rangeOfCompany() {
        Document.says(TEXT, "currency and company the number of one that was declared before");
        bad("center 0;", 7, 3);
        bad("currency 1;product 0 1 0 0;", 19, 3);
        bad("currency 1;center 0;company 0;", 18, 3);
        bad("currency 1;company 0;center 1;company 0;", 28, 3);
        bad("currency 1;company 0;product 1 1 0 0;company 0;", 29, 3);
        good("currency 1;" + "company 0;".repeat(6) + "product 5 1 0 0;center 5;", 6);
        bad("currency 1;" + "company 0;".repeat(6) + "product 6 1 0 0;", 79, 3);
        bad("currency 1;" + "company 0;".repeat(6) + "center 6;", 78, 3);
    }

    private static void rangesOfProduct() {
        Document.says(TEXT, "cost 1 to 9999; low 0 to 99; high low to 999");
        String start = "currency 1;company 0;product 0 ";
        good(start + "1 0 0;", 1);
        good(start + "9999 99 999;", 1);
        bad(start + "0 0 0;", 31, 3);
        bad(start + "10000 0 0;", 31, 1);
        good(start + "1 99 99;", 1);
        bad(start + "1 100 100;", 33, 3);
        bad(start + "1 99 98;", 36, 3);
        bad(start + "1 1 0;", 35, 3);
        good(start + "1 0 999;", 1);
        bad(start + "1 0 1000;", 35, 3);
        bad(start + "1 9999 9999;", 33, 3);
    }

    private static void rangeOfValue() {
        Document.says(TEXT, "value 0 to 9999");
        for (String word : new String[] {"tolerance", "fee"}) {
            good(word + " 0;", 0);
            good(word + " 9999;", 0);
            bad(word + " 10000;", word.length() + 1, 1);
        }
        Check.same("the highest tolerance", Ledgers.of("tolerance 9999;").setTolerance(0), 9999);
        Check.same("the lowest tolerance", Ledgers.of("tolerance 0;").setTolerance(5), 0);
    }

    private static void withoutStatements() {
        Document.says(TEXT, "Without their statements the tolerance and the fee are 0 and the center is company 0.");
        IntercompanyLedger x = new IntercompanyLedger();
        for (String before : new String[] {"", LARGEST}) {
            Ledgers.parse(x, before);
            Ledgers.parse(x, "currency 100;company 0;company 0;company 0;");
            x.book(1, 2, 0, 1, 50);
            x.book(2, 1, 1, 1, 50);
            x.book(0, 2, 0, 2, 50);
            x.book(2, 0, 1, 2, 49);
            x.match();
            Check.same("a difference of 0 is matched", x.item(0, 4), 1);
            Check.same("a difference of 1 is disputed", x.item(2, 4), 2);
            Check.same("neither of the two is the center", x.net(), 2);
            Check.same("no fees", x.total(5), 0);
            x.book(0, 1, 0, 3, 50);
            x.book(1, 0, 1, 3, 50);
            x.match();
            Check.same("company 0 is the center", x.net(), 1);
        }
    }

    private static void lowestOffset() {
        Document.says(TEXT, "Syntax errors.");
        Document.says(TEXT, "The parser reports the error with the lowest byte offset; of several kinds at one offset the lowest:");
        bad("fee 1;fee 1;!", 6, 2);
        bad("fee 1;!fee 1;", 6, 1);
        bad("currency 0;!", 9, 3);
        bad("currency 0!", 9, 3);
        bad("currency!0;", 8, 1);
        bad("currency 1;".repeat(4) + "currency 0;", 44, 4);
        bad("currency 1;".repeat(4) + "currency;", 44, 4);
        bad("currency 1;".repeat(4) + "currencyx;", 44, 1);
        bad("fee 1;fee x;", 6, 2);
        bad("fee 1;feefeefeef 1;", 6, 1);
        bad("currency 1;company 0;product 1 0 100 0;", 29, 3);
        bad("currency 99999;", 9, 1);
    }

    private static void syntax() {
        Document.says(TEXT, "1 (syntax): an illegal token, or a token that cannot continue a group");
        bad("1;", 0, 1);
        bad("fee fee;", 4, 1);
        bad("fee ;", 4, 1);
        bad("fee 1 1", 6, 1);
        bad("fee 1 fee", 6, 1);
        bad("fee 1;1;", 6, 1);
        bad("fee 1;word;", 6, 1);
    }

    private static void earlyEnd() {
        Document.says(TEXT, "if the text ends too early, the offset is the length of the text");
        bad("currency", 8, 1);
        bad("currency ", 9, 1);
        bad("currency 1", 10, 1);
        bad("currency 1\n\n  ", 14, 1);
        bad("currency 1;company 0;product 0 1 0", 34, 1);
        bad("currency 1;company 0;product 0 1 0 0", 36, 1);
        Check.same("at 600", fullBuffer("fee 1").parse(600), Ledgers.error(600, 1));
        IntercompanyLedger x = new IntercompanyLedger();
        Ledgers.append(x, "fee 1;");
        Check.same("the length is that of parse", x.parse(5), Ledgers.error(5, 1));
        good("fee 1; \n", 0);
    }

    private static void repeated() {
        Document.says(TEXT, "2 (repeated): the word of a second tolerance, center or fee statement.");
        bad("tolerance 1;tolerance 1;", 12, 2);
        bad("tolerance 0;tolerance 0;", 12, 2);
        bad("fee 1;fee 1;", 6, 2);
        bad("fee 0; fee", 7, 2);
        bad("currency 1;company 0;center 0;center 0;", 30, 2);
        bad("currency 1;company 0;center 0;fee 1;tolerance 1;center", 48, 2);
        IntercompanyLedger x = Ledgers.of("tolerance 1;fee 1;currency 1;company 0;center 0;");
        Check.same("each text counts anew", Ledgers.parse(x, "tolerance 1;fee 1;currency 1;company 0;center 0;"), 1);
    }

    private static void range() {
        Document.says(TEXT, "3 (range): a number that is out of its range.");
        bad("currency 0", 9, 3);
        bad("company 9999", 8, 3);
        bad("currency 1;company 0;product 0 1 5 4", 35, 3);
        bad("currency 1;company 0;center 0001;", 28, 3);
    }

    private static void tooMany() {
        Document.says(TEXT, "4 (too many): the word currency, company or product of a statement of which there are too many.");
        bad("currency 1;".repeat(4) + " currency 1;", 45, 4);
        bad("currency 1;".repeat(4) + "currency", 44, 4);
        bad("currency 1;" + "company 0;".repeat(6) + "company 0;", 71, 4);
        bad("currency 1;" + "company 0;".repeat(6) + "company 9;", 71, 4);
        bad("currency 1;company 0;" + "product 0 1 0 0;".repeat(6) + "product 0 1 0 0;", 117, 4);
        bad("currency 1;company 0;" + "product 0 1 0 0;".repeat(6) + "product;", 117, 4);
        IntercompanyLedger x = Ledgers.of(LARGEST);
        Check.same("each text counts anew", Ledgers.parse(x, LARGEST), 6);
    }

    static void all() {
        newObject();
        orderOfBytes();
        fullBuffer();
        sixHundredBytes();
        lastPlace();
        bytesBehindLength();
        shortestAndLongest();
        leastAndGreatestAnswers();
        emptyBufferAfterwards();
        errorKeepsAllElse();
        errorKeepsCenterAndFee();
        lengthOutOfRange();
        emptyAndFullSizes();
        sizeOutOfRange();
        rates();
        noSuchCurrency();
        currencies();
        noSuchCompany();
        products();
        bands();
        truncation();
        noSuchProduct();
        productOutOfRange();
        texts();
    }

    private static void texts() {
        whiteSpace();
        longestTokens();
        illegalTokens();
        wholeStatements();
        formsOfStatements();
        orderOfTheText();
        mostStatements();
        rangeOfRate();
        rangeOfCurrency();
        rangeOfCompany();
        rangesOfProduct();
        rangeOfValue();
        withoutStatements();
        lowestOffset();
        syntax();
        earlyEnd();
        repeated();
        range();
        tooMany();
    }
}
