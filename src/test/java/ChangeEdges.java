/** Boundary cases of promises 30 to 36: a test for each sentence that names one. */
final class ChangeEdges {

    private static final int NONE = IntercompanyLedger.NONE;
    private static final int TEXT = Document.DESCRIPTION;

    /** Two companies with rate 100, so that a value is the amount. */
    private static final String TWO = "currency 100;company 0;company 0;";

    private ChangeEdges() {
    }

    private static IntercompanyLedger full() {
        IntercompanyLedger x = Ledgers.of(TWO);
        for (int item = 0; item < 100; item++) {
            x.book(item % 2, 1 - item % 2, item % 2, item / 2, 10);
        }
        return x;
    }

    /** A disputed pair: company 0 has booked item 0, a receivable, and company 1 item 1, its payable. */
    private static IntercompanyLedger disputed(int rate, int otherRate, int amount, int otherAmount) {
        IntercompanyLedger x = Ledgers.of("currency " + rate + ";currency " + otherRate + ";company 0;company 1;");
        x.book(0, 1, 0, 1, amount);
        x.book(1, 0, 1, 1, otherAmount);
        x.match();
        Check.same("the pair is disputed", x.item(0, 4), 2);
        return x;
    }

    // ---- promise 30

    private static void sides() {
        Document.says(30, "`side`: 0 receivable, 1 payable");
        IntercompanyLedger x = Ledgers.of(TWO);
        x.book(0, 1, 0, 5, 10);
        x.book(0, 1, 1, 5, 3);
        Check.same("a receivable", x.item(0, 2), 0);
        Check.same("a payable", x.item(1, 2), 1);
        Check.same("a receivable less a payable", x.total(0), 7);
    }

    private static void leastAndMostReference() {
        Document.says(30, "`reference`: 0 to 999");
        IntercompanyLedger x = Ledgers.of(TWO);
        for (int reference : new int[] {0, 999}) {
            int item = x.book(0, 1, 0, reference, 10);
            x.book(1, 0, 1, reference, 10);
            Check.same("reference", x.item(item, 3), reference);
            Check.same("its own mirror alone", x.candidates(item), 1);
        }
    }

    private static void leastAndMostAmount() {
        Document.says(30, "`amount`: 1 to 1000000");
        IntercompanyLedger x = Ledgers.of(TWO);
        x.book(0, 1, 0, 5, 1);
        x.book(0, 1, 0, 5, 1000000);
        Check.same("the least", x.amount(0), 1);
        Check.same("the least value", x.value(0), 1);
        Check.same("the most", x.amount(1), 1000000);
        Check.same("the most value", x.value(1), 1000000);
    }

    private static void firstToLastItem() {
        Document.says(30, "Returns the number of the item.");
        IntercompanyLedger x = Ledgers.of(TWO);
        for (int item = 0; item < 100; item++) {
            Check.same("item", x.book(0, 1, 0, 5, 1), item);
            if (item == 50) {
                x.cancel(50);
            }
        }
    }

    private static void leastAndMostBooked() {
        Document.says(30, "Books an item.");
        IntercompanyLedger x = Ledgers.of(TWO);
        Check.same("the least", x.book(0, 1, 0, 0, 1), 0);
        Check.same("the most", x.book(1, 0, 1, 999, 1000000), 1);
        int[][] due = {{0, 1, 0, 0, 0, NONE}, {1, 0, 1, 999, 0, NONE}};
        for (int what = 0; what <= 5; what++) {
            Check.same("the least " + what, x.item(0, what), due[0][what]);
            Check.same("the most " + what, x.item(1, what), due[1][what]);
        }
        Check.same("the least amount", x.amount(0), 1);
        Check.same("the most", x.amount(1), 1000000);
        IntercompanyLedger y = Ledgers.of("currency 1;" + "company 0;".repeat(6));
        Check.same("the last company", y.book(5, 0, 0, 0, 1), 0);
        Check.same("the last partner", y.book(0, 5, 0, 0, 1), 1);
    }

    private static void bookNoSuch() {
        Document.says(30, "if there is no such company or partner (checked first)");
        IntercompanyLedger x = Ledgers.of(TWO);
        IntercompanyLedger full = full();
        Check.noSuch("book", 2, company -> x.book(company, 0, 0, 0, 1));
        Check.noSuch("book against", 2, partner -> x.book(0, partner, 0, 0, 1));
        Check.noSuch("book against itself", 2, both -> x.book(both, both, 0, 0, 1));
        Check.noSuch("book on a wrong side", 2, company -> x.book(company, 0, 2, 0, 1));
        Check.noSuch("book with a wrong reference", 2, partner -> x.book(0, partner, 0, 1000, 1));
        Check.noSuch("book of a wrong amount", 2, partner -> x.book(0, partner, 0, 0, 0));
        Check.noSuch("book in full rows", 2, company -> full.book(company, 0, 0, 0, 1));
        Check.noSuch("book against in full rows", 2, partner -> full.book(0, partner, 0, 0, 1));
        Check.noSuch("book in a new object", 0, company -> new IntercompanyLedger().book(company, 1, 0, 0, 1));
    }

    private static void bookAgainstItself() {
        Document.says(30, "if the partner is the company, or side, reference or amount is out of range (checked second)");
        IntercompanyLedger x = Ledgers.of(TWO);
        Check.noArgument("company 0", () -> x.book(0, 0, 0, 0, 1));
        Check.noArgument("company 1", () -> x.book(1, 1, 1, 0, 1));
        Check.noArgument("in full rows", () -> full().book(1, 1, 0, 0, 1));
        Check.same("nothing was booked", x.size(3), 0);
    }

    private static void bookOutOfRange() {
        Document.says(30, "or side, reference or amount is out of range (checked second)");
        IntercompanyLedger empty = Ledgers.of(TWO);
        IntercompanyLedger full = full();
        for (IntercompanyLedger x : new IntercompanyLedger[] {empty, full}) {
            Check.outOfRange("side", 0, 1, side -> x.book(0, 1, side, 0, 1));
            Check.outOfRange("reference", 0, 999, reference -> x.book(0, 1, 0, reference, 1));
            Check.outOfRange("amount", 1, 1000000, amount -> x.book(0, 1, 0, 0, amount));
        }
        Check.same("nothing was booked", empty.size(3), 0);
    }

    private static void hundredItems() {
        Document.says(30, "if there are 100 items");
        IntercompanyLedger x = full();
        Check.noState("one more", () -> x.book(0, 1, 0, 0, 1));
        Check.same("a hundred", x.size(3), 100);
        x.cancel(0);
        Check.noState("a cancelled item leaves no room", () -> x.book(0, 1, 0, 0, 1));
        x.match();
        x.net();
        Check.noState("settled items leave no room", () -> x.book(0, 1, 0, 0, 1));
        x.undo();
        x.undo();
        x.undo();
        x.undo();
        Check.same("an undone item does", x.book(1, 0, 0, 8, 3), 99);
        Check.same("the new one", x.item(99, 3), 8);
        Check.noState("one more", () -> x.book(0, 1, 0, 0, 1));
        Ledgers.parse(x, TWO);
        Check.same("a new group does", x.book(0, 1, 0, 0, 1), 0);
    }

    private static void refusedBookingChangesNothing() {
        Document.says(TEXT, "A method that throws an exception changes nothing.");
        Twins.unchanged("book of no company", x -> x.book(3, 0, 0, 0, 1));
        Twins.unchanged("book against itself", x -> x.book(0, 0, 0, 0, 1));
        Twins.unchanged("book of no amount", x -> x.book(0, 1, 0, 0, 0));
        IntercompanyLedger x = full();
        Check.noState("one more", () -> x.book(0, 1, 0, 0, 1));
        Twins.alike("book in full rows", x, full());
    }

    // ---- promise 31

    private static void valueBefore() {
        Document.says(31, "Cancels an item.");
        Document.says(31, "Returns its value before.");
        IntercompanyLedger x = Ledgers.of("currency 1;currency 9999;company 0;company 1;");
        x.book(0, 1, 0, 1, 99);
        x.book(1, 0, 0, 1, 1000000);
        x.book(1, 0, 0, 1, 200);
        x.setRate(1, 150);
        Check.same("no value", x.cancel(0), 0);
        Check.same("the present value, not the booked one", x.cancel(2), 300);
        x.setRate(1, 9999);
        Check.same("the greatest", x.cancel(1), 99990000);
        Check.same("value", x.value(1), 0);
        Check.same("state", x.item(1, 4), 4);
    }

    private static void cancelNoSuch() {
        Document.says(31, "if there is no such item (checked first)");
        Check.noSuch("cancel", 9, Twins.busy()::cancel);
        Check.noSuch("cancel of none", 0, Ledgers.of(TWO)::cancel);
        Check.noSuch("cancel of 100", 100, full()::cancel);
        Twins.unchanged("cancel(9)", x -> x.cancel(9));
    }

    private static void cancelNotOpen() {
        Document.says(31, "if it is not open");
        IntercompanyLedger x = Twins.busy();
        for (int item : new int[] {0, 1, 2, 3, 4, 5, 8}) {
            Check.noState("item " + item, () -> x.cancel(item));
            Twins.unchanged("cancel(" + item + ")", y -> y.cancel(item));
        }
        Check.same("an open receivable", x.cancel(6), 10);
        Check.same("an open payable", x.cancel(7), 12);
        Check.noState("once more", () -> x.cancel(7));
        x.release(2);
        Check.same("a released item", x.cancel(3), 990);
    }

    // ---- promise 32

    private static void matchWithoutPairs() {
        Document.says(32, "It is a change even if no pair is formed.");
        IntercompanyLedger x = new IntercompanyLedger();
        Check.same("no company", x.match(), 0);
        Check.same("a change", x.undo(), 0);
        Check.same("nothing more", x.undo(), NONE);
        IntercompanyLedger y = Ledgers.of(TWO);
        y.book(0, 1, 0, 1, 1);
        Check.same("no pair", y.match(), 0);
        Check.same("still open", y.item(0, 4), 0);
        Check.same("a change", y.undo(), 1);
        Check.same("the booking before it", y.undo(), 0);
        IntercompanyLedger z = Ledgers.of(TWO);
        z.setTolerance(5);
        for (int i = 0; i < 10; i++) {
            z.match();
        }
        for (int left = 9; left >= 0; left--) {
            Check.same("ten empty runs", z.undo(), left);
        }
        Check.same("the oldest change fell out", z.setTolerance(1), 5);
    }

    private static void pairsThatWereFormed() {
        Document.says(32, "@return the number of pairs that were formed");
        IntercompanyLedger x = Ledgers.of(TWO);
        Check.same("no item", x.match(), 0);
        x.book(0, 1, 0, 1, 10);
        x.book(1, 0, 1, 1, 10);
        Check.same("a matched pair", x.match(), 1);
        x.book(0, 1, 0, 2, 10);
        x.book(1, 0, 1, 2, 99);
        Check.same("a disputed pair; the first was formed before", x.match(), 1);
        x.release(0);
        x.release(2);
        Check.same("both anew", x.match(), 2);
        Check.same("none is left", x.match(), 0);
    }

    private static void fiftyPairs() {
        Document.says(32, "Makes a match run.");
        IntercompanyLedger x = full();
        Check.same("all at once", x.match(), 50);
        Check.same("all are paired", x.match(), 0);
        for (int item = 0; item < 100; item++) {
            Check.same("matched", x.item(item, 4), 1);
            Check.same("with its neighbour", x.item(item, 5), item % 2 == 0 ? item + 1 : item - 1);
        }
    }

    private static void ascendingReceivables() {
        Document.says(TEXT, "A match run goes through the open receivables by ascending number.");
        IntercompanyLedger x = Ledgers.of(TWO);
        x.book(1, 0, 1, 1, 20);
        x.book(0, 1, 0, 1, 10);
        x.book(0, 1, 0, 1, 20);
        Check.same("one payable for two", x.match(), 1);
        Check.same("the lower number has it", x.item(0, 5), 1);
        Check.same("the better one is left", x.item(2, 4), 0);
        x.undo();
        x.cancel(1);
        Check.same("only open ones take part", x.match(), 1);
        Check.same("the next number has it", x.item(0, 5), 2);
    }

    private static void smallestDifference() {
        Document.says(TEXT, "it is paired with that one for which the absolute difference of their values is the smallest (of several the one with the lowest number)");
        int[][] payables = {{103, 98}, {98, 103}, {102, 98}, {98, 102}, {105, 100, 100}, {1, 1000000}, {100, 100}};
        int[] due = {2, 1, 1, 1, 2, 1, 1};
        for (int i = 0; i < payables.length; i++) {
            IntercompanyLedger x = Ledgers.of(TWO);
            x.book(0, 1, 0, 1, 100);
            for (int amount : payables[i]) {
                x.book(1, 0, 1, 1, amount);
            }
            Check.same("payables " + i, x.wouldPair(0), due[i]);
            Check.same("payables " + i, x.match(), 1);
            Check.same("payables " + i, x.item(0, 5), due[i]);
        }
    }

    private static void payablesBeforeReceivables() {
        Document.says(TEXT, "(of several the one with the lowest number)");
        IntercompanyLedger x = Ledgers.of(TWO);
        x.book(1, 0, 1, 1, 99);
        x.book(1, 0, 1, 1, 101);
        x.book(1, 0, 1, 1, 102);
        x.book(0, 1, 0, 1, 100);
        x.book(0, 1, 0, 1, 100);
        Check.same("item 0 is the lowest", x.wouldPair(3), 0);
        Check.same("the next has the next", x.wouldPair(4), 1);
        Check.same("two pairs", x.match(), 2);
        Check.same("item 0 is the lowest", x.item(0, 5), 3);
        Check.same("the next has the next", x.item(1, 5), 4);
        Check.same("the third is left", x.item(2, 5), NONE);
    }

    private static void differenceOfValues() {
        Document.says(TEXT, "the absolute difference of their values is the smallest");
        IntercompanyLedger x = Ledgers.of("currency 100;currency 50;company 0;company 1;");
        x.book(0, 1, 0, 1, 100);
        x.book(1, 0, 1, 1, 100);
        x.book(1, 0, 1, 1, 199);
        x.match();
        Check.same("values, not amounts", x.item(0, 5), 2);
        IntercompanyLedger y = Ledgers.of("currency 100;currency 50;company 0;company 1;");
        y.book(0, 1, 0, 1, 100);
        y.book(1, 0, 1, 1, 201);
        y.book(1, 0, 1, 1, 200);
        y.match();
        Check.same("values that truncate to the same", y.item(0, 5), 1);
        Check.same("are matched without a tolerance", y.item(0, 4), 1);
    }

    private static void atMostTheTolerance() {
        Document.says(TEXT, "Both are matched if this difference is at most the tolerance; otherwise both are disputed.");
        for (int sign = -1; sign <= 1; sign += 2) {
            for (int tolerance : new int[] {0, 1, 400000}) {
                IntercompanyLedger x = Ledgers.of(TWO);
                x.setTolerance(tolerance);
                x.book(0, 1, 0, 1, 450000);
                x.book(1, 0, 1, 1, 450000 + sign * tolerance);
                x.book(0, 1, 0, 2, 450000);
                x.book(1, 0, 1, 2, 450000 + sign * (tolerance + 1));
                Check.same("two pairs", x.match(), 2);
                Check.same("at the tolerance", x.item(0, 4), 1);
                Check.same("at the tolerance", x.item(1, 4), 1);
                Check.same("above it", x.item(2, 4), 2);
                Check.same("above it", x.item(3, 4), 2);
            }
        }
    }

    private static void highestTolerance() {
        Document.says(TEXT, "Both are matched if this difference is at most the tolerance");
        IntercompanyLedger x = Ledgers.of("currency 200;company 0;company 0;");
        x.setTolerance(1000000);
        x.book(0, 1, 0, 1, 500001);
        x.book(1, 0, 1, 1, 1);
        x.book(0, 1, 0, 2, 1);
        x.book(1, 0, 1, 2, 500002);
        x.match();
        Check.same("a million", x.item(0, 4), 1);
        Check.same("more than a million", x.item(2, 4), 2);
    }

    // ---- promise 33

    private static void released() {
        Document.says(33, "Releases a matched or disputed pair: both items are open again.");
        Document.says(33, "one of the two items");
        Document.says(33, "Returns the item with which it was paired.");
        int[][] pairs = {{2, 3}, {3, 2}, {4, 5}, {5, 4}};
        for (int[] pair : pairs) {
            IntercompanyLedger x = Twins.busy();
            Check.same("release " + pair[0], x.release(pair[0]), pair[1]);
            for (int item : pair) {
                Check.same("open " + item, x.item(item, 4), 0);
                Check.same("alone " + item, x.item(item, 5), NONE);
            }
            Check.noState("once more", () -> x.release(pair[0]));
            Check.noState("the other one", () -> x.release(pair[1]));
        }
    }

    private static void releaseNoSuch() {
        Document.says(33, "if there is no such item (checked first)");
        Check.noSuch("release", 9, Twins.busy()::release);
        Check.noSuch("release of none", 0, Ledgers.of(TWO)::release);
        Check.noSuch("release of 100", 100, full()::release);
        Twins.unchanged("release(-1)", x -> x.release(-1));
    }

    private static void releaseWithoutPair() {
        Document.says(33, "if it is neither matched nor disputed");
        IntercompanyLedger x = Twins.busy();
        for (int item : new int[] {0, 1, 6, 7, 8}) {
            Check.noState("item " + item, () -> x.release(item));
            Twins.unchanged("release(" + item + ")", y -> y.release(item));
        }
    }

    // ---- promise 34

    private static void accepted() {
        Document.says(34, "Ends a dispute: the partner accepts an item.");
        Document.says(34, "The amount of the item with which it is paired becomes value * 100 / rate");
        Document.says(34, "Both items are matched.");
        Document.says(34, "the accepted item");
        Document.says(34, "Returns the new amount of the other item.");
        IntercompanyLedger x = disputed(150, 70, 7, 1000);
        Check.same("10 * 100 / 70", x.accept(0), 14);
        Check.same("the amount of the other", x.amount(1), 14);
        Check.same("its own amount stays", x.amount(0), 7);
        Check.same("matched", x.item(0, 4), 1);
        Check.same("matched", x.item(1, 4), 1);
        Check.same("a truncated value, over the tolerance", x.pairDifference(0), 1);
        x.undo();
        Check.same("700 * 100 / 150", x.accept(1), 466);
        Check.same("the amount of the other", x.amount(0), 466);
        Check.same("its own amount stays", x.amount(1), 1000);
        Check.same("a truncated value, over the tolerance", x.pairDifference(0), -1);
    }

    private static void bookedAnew() {
        Document.says(34, "the booked value of the other one becomes its value then");
        IntercompanyLedger x = disputed(100, 50, 100, 100);
        x.setRate(0, 200);
        x.setRate(1, 60);
        x.accept(0);
        Check.same("the other one", x.currencyDifference(1), 0);
        Check.same("the accepted one stays", x.currencyDifference(0), 100);
        x.setRate(1, 120);
        Check.same("since then", x.currencyDifference(1), x.value(1) - 333L * 60 / 100);
        Check.same("since then", x.currencyDifference(1), 200);
    }

    private static void acceptNoSuch() {
        Document.says(34, "if there is no such item (checked first)");
        Check.noSuch("accept", 9, Twins.busy()::accept);
        Check.noSuch("accept of none", 0, Ledgers.of(TWO)::accept);
        Check.noSuch("accept of 100", 100, full()::accept);
        Twins.unchanged("accept(9)", x -> x.accept(9));
    }

    private static void acceptNotDisputed() {
        Document.says(34, "if it is not disputed, or the new amount would be less than 1 or greater than 1000000000");
        IntercompanyLedger x = Twins.busy();
        for (int item : new int[] {0, 1, 2, 3, 6, 7, 8}) {
            Check.noState("item " + item, () -> x.accept(item));
            Twins.unchanged("accept(" + item + ")", y -> y.accept(item));
        }
        Check.same("a disputed receivable", x.accept(4), 1000);
        Check.noState("once more", () -> x.accept(4));
        Check.noState("the other one", () -> x.accept(5));
        x.undo();
        Check.same("a disputed payable", x.accept(5), 450);
    }

    private static void newAmountTooSmall() {
        Document.says(34, "or the new amount would be less than 1");
        IntercompanyLedger x = disputed(100, 9999, 99, 500);
        Check.noState("99 * 100 / 9999 is 0", () -> x.accept(0));
        Check.same("still disputed", x.item(0, 4), 2);
        Check.same("the amount stays", x.amount(1), 500);
        Check.same("no change", x.undo(), 2);
        Check.same("100 * 100 / 9999 is 1", disputed(100, 9999, 100, 500).accept(0), 1);
        IntercompanyLedger y = disputed(1, 1, 99, 500);
        Check.noState("a value of 0", () -> y.accept(0));
        Check.same("a value of 5", y.accept(1), 500);
    }

    private static void newAmountTooLarge() {
        Document.says(34, "or greater than 1000000000");
        Check.same("a thousand million", disputed(1, 1000, 1, 1000000).accept(1), 1000000000);
        IntercompanyLedger x = disputed(1, 1001, 1, 999001);
        Check.same("value", x.value(1), 10000000);
        Check.same("a thousand million", x.accept(1), 1000000000);
        IntercompanyLedger y = disputed(1, 1001, 1, 999100);
        Check.noState("1000099100", () -> y.accept(1));
        Check.same("still disputed", y.item(1, 4), 2);
        Check.same("the amount stays", y.amount(0), 1);
        IntercompanyLedger z = disputed(1, 9999, 1, 1000000);
        Check.noState("beyond int", () -> z.accept(1));
        Check.same("no change", z.undo(), 2);
    }

    /** The first accepted amount is chosen so that the second one is the least that is too large. */
    private static void newAmountJustTooLarge() {
        Document.says(34, "or greater than 1000000000");
        IntercompanyLedger x = disputed(19, 9928, 1, 106959);
        Check.same("10618889 * 100 / 19", x.accept(1), 55888889);
        x.release(1);
        x.setRate(0, 9000);
        x.setRate(1, 503);
        x.match();
        Check.same("the value that is accepted", x.value(0), 5030000010L);
        Check.noState("5030000010 * 100 / 503 is 1000000001", () -> x.accept(0));
        Check.same("the amount stays", x.amount(1), 106959);
    }

    // ---- promise 35

    private static void valuesAtTheLimits() {
        Document.says(35, "Sets a rate.");
        IntercompanyLedger x = Ledgers.of(TWO);
        x.book(0, 1, 0, 5, 100);
        x.setRate(0, 1);
        Check.same("at the lowest rate", x.value(0), 1);
        x.setRate(0, 9999);
        Check.same("at the highest rate", x.value(0), 9999);
    }

    private static void previousRate() {
        Document.says(35, "Returns the previous rate.");
        IntercompanyLedger x = Ledgers.of(TWO);
        Check.same("that of the text", x.setRate(0, 5), 100);
        Check.same("that of the call before", x.setRate(0, 5), 5);
        Check.noArgument("refused", () -> x.setRate(0, 0));
        Check.same("a refused rate is not the previous one", x.setRate(0, 6), 5);
        x.undo();
        Check.same("neither is an undone one", x.setRate(0, 7), 5);
    }

    private static void leastAndMostRate() {
        Document.says(35, "`rate`: 1 to 9999");
        IntercompanyLedger x = Ledgers.of("currency 5;currency 6;currency 7;currency 8;");
        Check.same("the lowest", x.setRate(0, 1), 5);
        Check.same("the highest", x.setRate(0, 9999), 1);
        Check.same("the last", x.setRate(3, 9), 8);
        Check.same("the highest", x.rate(0), 9999);
        Check.same("another", x.rate(1), 6);
        Check.same("the last", x.rate(3), 9);
        Check.same("the same again", x.setRate(3, 9), 9);
        Check.same("is a change", x.undo(), 3);
    }

    private static void statesStay() {
        Document.says(35, "Matched items stay matched, and disputed ones disputed.");
        IntercompanyLedger x = Twins.busy();
        for (int rate : new int[] {1, 9999}) {
            x.setRate(1, rate);
            Check.same("matched", x.item(2, 4) * 10 + x.item(3, 4), 11);
            Check.same("disputed", x.item(4, 4) * 10 + x.item(5, 4), 22);
            x.match();
            Check.same("matched after a run", x.item(2, 4), 1);
        }
        IntercompanyLedger y = disputed(100, 50, 100, 100);
        y.setRate(1, 100);
        Check.same("no difference any more", y.pairDifference(0), 0);
        Check.same("still disputed", y.item(0, 4), 2);
        y.match();
        Check.same("disputed after a run", y.item(0, 4), 2);
    }

    private static void rateOfNone() {
        Document.says(35, "if there is no such currency (checked first)");
        IntercompanyLedger x = Ledgers.of(Ledgers.THREE);
        Check.noSuch("setRate", 2, currency -> x.setRate(currency, 5));
        Check.noSuch("setRate to a wrong rate", 2, currency -> x.setRate(currency, 0));
        Check.noSuch("setRate to a wrong rate", 2, currency -> x.setRate(currency, 10000));
        Check.noSuch("setRate of a new object", 0, currency -> new IntercompanyLedger().setRate(currency, 1));
        Check.noSuch("setRate of four", 4, currency -> Ledgers.of("currency 1;".repeat(4)).setRate(currency, 1));
        Twins.unchanged("setRate(2, 5)", y -> y.setRate(2, 5));
    }

    private static void rateOutOfRange() {
        Document.says(35, "if rate is out of range");
        IntercompanyLedger x = Ledgers.of(Ledgers.THREE);
        Check.outOfRange("setRate", 1, 9999, rate -> x.setRate(0, rate));
        Check.outOfRange("setRate", 1, 9999, rate -> x.setRate(1, rate));
        Twins.unchanged("setRate(0, 0)", y -> y.setRate(0, 0));
        Twins.unchanged("setRate(1, 10000)", y -> y.setRate(1, 10000));
    }

    // ---- promise 36

    private static void previousTolerance() {
        Document.says(36, "Returns the previous one.");
        IntercompanyLedger x = Ledgers.of(Ledgers.THREE);
        Check.same("that of the text", x.setTolerance(5), 20);
        Check.noArgument("refused", () -> x.setTolerance(-1));
        Check.same("a refused one is not the previous one", x.setTolerance(6), 5);
        x.undo();
        Check.same("neither is an undone one", x.setTolerance(7), 5);
        Check.same("without a statement", Ledgers.of("").setTolerance(1), 0);
    }

    private static void leastAndMostTolerance() {
        Document.says(36, "`value`: 0 to 1000000");
        IntercompanyLedger x = Ledgers.of("tolerance 9999;");
        Check.same("the highest", x.setTolerance(1000000), 9999);
        Check.same("the lowest", x.setTolerance(0), 1000000);
        Check.same("the same again", x.setTolerance(0), 0);
        Check.same("is a change", x.undo(), 2);
        Check.same("previous", x.setTolerance(7), 0);
    }

    private static void toleranceOfPairs() {
        Document.says(36, "Sets the tolerance.");
        IntercompanyLedger x = disputed(100, 100, 10, 15);
        x.setTolerance(5);
        Check.same("a disputed pair stays", x.item(0, 4), 2);
        x.release(0);
        x.match();
        Check.same("the next run has it", x.item(0, 4), 1);
        x.setTolerance(0);
        Check.same("a matched pair stays", x.item(0, 4), 1);
    }

    private static void toleranceOutOfRange() {
        Document.says(36, "if value is out of range");
        IntercompanyLedger x = Ledgers.of(Ledgers.THREE);
        Check.outOfRange("setTolerance", 0, 1000000, x::setTolerance);
        Check.same("it stays", x.setTolerance(1), 20);
        Twins.unchanged("setTolerance(-1)", y -> y.setTolerance(-1));
        Twins.unchanged("setTolerance(1000001)", y -> y.setTolerance(1000001));
    }

    static void all() {
        sides();
        leastAndMostReference();
        leastAndMostAmount();
        firstToLastItem();
        leastAndMostBooked();
        bookNoSuch();
        bookAgainstItself();
        bookOutOfRange();
        hundredItems();
        refusedBookingChangesNothing();
        valueBefore();
        cancelNoSuch();
        cancelNotOpen();
        matchWithoutPairs();
        pairsThatWereFormed();
        fiftyPairs();
        ascendingReceivables();
        smallestDifference();
        payablesBeforeReceivables();
        differenceOfValues();
        atMostTheTolerance();
        highestTolerance();
        pairsAndRates();
    }

    private static void pairsAndRates() {
        released();
        releaseNoSuch();
        releaseWithoutPair();
        accepted();
        bookedAnew();
        acceptNoSuch();
        acceptNotDisputed();
        newAmountTooSmall();
        newAmountTooLarge();
        newAmountJustTooLarge();
        valuesAtTheLimits();
        previousRate();
        leastAndMostRate();
        statesStay();
        rateOfNone();
        rateOutOfRange();
        previousTolerance();
        leastAndMostTolerance();
        toleranceOfPairs();
        toleranceOutOfRange();
    }
}
