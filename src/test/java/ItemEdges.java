/** Boundary cases of promises 8 to 18 and of ITEMS: a test for each sentence that names one. */
final class ItemEdges {

    private static final int NONE = IntercompanyLedger.NONE;
    private static final int TEXT = Document.DESCRIPTION;

    /** Two companies with rate 100, so that a value is the amount. */
    private static final String TWO = "currency 100;company 0;company 0;";

    private ItemEdges() {
    }

    /** A receivable of company 0, number 0, and as many payables of company 1 as there is room for. */
    private static IntercompanyLedger full() {
        IntercompanyLedger x = Ledgers.of(TWO);
        x.book(0, 1, 0, 999, 1000000);
        for (int item = 1; item < 100; item++) {
            x.book(1, 0, 1, 999, item);
        }
        return x;
    }

    // ---- promise 8

    private static void properties() {
        Document.says(8, "Returns a property of an item.");
        Document.says(8, "Returns the property.");
        Document.says(TEXT, "An item is a receivable (side 0) or a payable (side 1)");
        Document.says(TEXT, "Items are numbered from 0.");
        IntercompanyLedger x = full();
        int[] first = {0, 1, 0, 999, 0, NONE};
        int[] last = {1, 0, 1, 999, 0, NONE};
        for (int what = 0; what <= 5; what++) {
            Check.same("the first item " + what, x.item(0, what), first[what]);
            Check.same("the last item " + what, x.item(99, what), last[what]);
        }
    }

    private static void pairOrNone() {
        Document.says(8, "5: the item with which it is paired, NONE if there is none");
        IntercompanyLedger x = full();
        x.match();
        Check.same("paired with the last", x.item(0, 5), 99);
        Check.same("paired with the first", x.item(99, 5), 0);
        Check.same("not paired", x.item(98, 5), NONE);
        x.release(99);
        Check.same("released", x.item(0, 5), NONE);
        Check.same("released", x.item(99, 5), NONE);
        x.cancel(99);
        Check.same("cancelled", x.item(99, 5), NONE);
    }

    private static void states() {
        Document.says(TEXT, "Its state is 0 open, 1 matched, 2 disputed, 3 settled or 4 cancelled.");
        IntercompanyLedger x = Twins.busy();
        int[] due = {3, 3, 1, 1, 2, 2, 0, 0, 4};
        for (int item = 0; item < due.length; item++) {
            Check.same("state of " + item, x.item(item, 4), due[item]);
        }
    }

    private static void noSuchItem() {
        Document.says(8, "if there is no such item (checked first)");
        IntercompanyLedger x = Twins.busy();
        Check.noSuch("item", 9, item -> x.item(item, 0));
        Check.noSuch("item, with a wrong what", 9, item -> x.item(item, 6));
        Check.noSuch("item, with a wrong what", 9, item -> x.item(item, -1));
        Check.noSuch("item of none", 0, item -> Ledgers.of(TWO).item(item, 0));
        Check.noSuch("item of 100", 100, item -> full().item(item, 5));
        x.book(0, 1, 0, 0, 1);
        x.undo();
        Check.noIndex("an item that was undone", () -> x.item(9, 0));
    }

    private static void whatOutOfRange() {
        Document.says(8, "if what is out of range");
        IntercompanyLedger x = Twins.busy();
        Check.outOfRange("item 0", 0, 5, what -> x.item(0, what));
        Check.outOfRange("item 8", 0, 5, what -> x.item(8, what));
    }

    // ---- promises 9 to 11

    private static void amounts() {
        Document.says(9, "Returns its amount.");
        IntercompanyLedger x = Ledgers.of("currency 1;currency 1000;company 0;company 1;");
        x.book(0, 1, 0, 5, 1);
        x.book(1, 0, 1, 5, 1000000);
        Check.same("the smallest", x.amount(0), 1);
        Check.same("the largest that is booked", x.amount(1), 1000000);
        x.match();
        x.accept(1);
        Check.same("the largest that is accepted", x.amount(0), 1000000000);
        x.net();
        Check.same("settled", x.amount(0), 1000000000);
        x.book(1, 0, 1, 5, 77);
        x.cancel(2);
        Check.same("cancelled", x.amount(2), 77);
    }

    private static void noSuchAmount() {
        Document.says(9, "if there is no such item");
        Check.noSuch("amount", 9, Twins.busy()::amount);
        Check.noSuch("amount of none", 0, Ledgers.of(TWO)::amount);
        Check.noSuch("amount of 100", 100, full()::amount);
    }

    private static void values() {
        Document.says(TEXT, "The value of an amount is amount * rate / 100, by the present rate of the currency of the company that has booked the item.");
        Document.says(TEXT, "Amounts of a company are in its currency; values, costs and prices are in the currency of the group.");
        IntercompanyLedger x = Ledgers.of("currency 1;currency 9999;company 0;company 1;");
        x.book(0, 1, 0, 1, 99);
        x.book(0, 1, 0, 1, 100);
        x.book(0, 1, 1, 1, 199);
        x.book(1, 0, 1, 1, 1);
        x.book(1, 0, 0, 1, 1000000);
        long[] due = {0, 1, 1, 99, 99990000};
        for (int item = 0; item < due.length; item++) {
            Check.same("value " + item, x.value(item), due[item]);
        }
        x.setRate(0, 101);
        Check.same("by the present rate", x.value(0), 99);
        Check.same("by the present rate", x.value(2), 200);
        Check.same("the rate of its own company", x.value(3), 99);
    }

    private static void greatestValue() {
        Document.says(10, "Returns its value.");
        IntercompanyLedger x = Ledgers.of("currency 1;currency 1000;company 0;company 1;");
        x.book(0, 1, 0, 5, 1);
        x.book(1, 0, 1, 5, 1000000);
        x.match();
        x.accept(1);
        x.setRate(0, 9999);
        Check.same("value", x.value(0), 99990000000L);
        Check.same("currency difference", x.currencyDifference(0), 99990000000L - 10000000);
        Check.same("pair difference", x.pairDifference(1), 99990000000L - 10000000);
        Check.same("balance", x.balance(0, 1), 99990000000L - 10000000);
        Check.same("position", x.position(1), -99990000000L);
        x.net();
        Check.same("settled position", x.settledPosition(0), 99990000000L);
        Check.same("rounding", x.total(4), 99990000000L - 10000000);
        Check.same("settled", x.value(0), 99990000000L);
    }

    private static void settledAndCancelledValues() {
        Document.says(TEXT, "The value of a settled item stays what it was when it was settled, and that of a cancelled one is 0.");
        IntercompanyLedger x = Twins.busy();
        x.setRate(0, 110);
        x.setRate(1, 55);
        Check.same("settled at the first rate", x.value(0), 1000);
        Check.same("settled at the first rate", x.value(1), 995);
        Check.same("matched", x.value(2), 1100);
        Check.same("matched", x.value(3), 1089);
        x.net();
        x.setRate(0, 1);
        x.setRate(1, 1);
        Check.same("settled at the second rate", x.value(2), 1100);
        Check.same("settled at the second rate", x.value(3), 1089);
        Check.same("still settled at the first", x.value(0), 1000);
        Check.same("cancelled", x.value(8), 0);
    }

    private static void noSuchValue() {
        Document.says(10, "if there is no such item");
        Check.noSuch("value", 9, Twins.busy()::value);
        Check.noSuch("value of none", 0, Ledgers.of(TWO)::value);
        Check.noSuch("value of 100", 100, full()::value);
    }

    private static void currencyDifferences() {
        Document.says(11, "Returns its value minus its booked value; 0 if it is cancelled.");
        Document.says(TEXT, "The booked value of an item is its value when it was booked.");
        IntercompanyLedger x = Twins.busy();
        x.setRate(0, 90);
        x.setRate(1, 60);
        x.book(0, 1, 0, 9, 100);
        long[] due = {0, 0, -100, 198, -50, 90, -1, -2, 0, 0};
        for (int item = 0; item < due.length; item++) {
            Check.same("difference " + item, x.currencyDifference(item), due[item]);
        }
        x.setRate(0, 100);
        Check.same("booked at the later rate", x.currencyDifference(9), 10);
        Check.same("the cancelled one", x.currencyDifference(8), 0);
        x.net();
        x.setRate(1, 1);
        Check.same("settled", x.currencyDifference(3), 198);
    }

    private static void noSuchCurrencyDifference() {
        Document.says(11, "if there is no such item");
        Check.noSuch("currencyDifference", 9, Twins.busy()::currencyDifference);
        Check.noSuch("currencyDifference of none", 0, Ledgers.of(TWO)::currencyDifference);
        Check.noSuch("currencyDifference of 100", 100, full()::currencyDifference);
    }

    // ---- promise 12

    private static void pairDifferences() {
        Document.says(12, "Returns the value of the receivable minus that of the payable of the pair to which the item belongs.");
        IntercompanyLedger x = Twins.busy();
        long[] due = {5, 5, 10, 10, 50, 50};
        for (int item = 0; item < due.length; item++) {
            Check.same("pairDifference " + item, x.pairDifference(item), due[item]);
        }
        x.match();
        Check.same("negative", x.pairDifference(6), -2);
        Check.same("negative from the payable too", x.pairDifference(7), -2);
        IntercompanyLedger y = Ledgers.of(TWO);
        y.book(0, 1, 0, 1, 5);
        y.book(1, 0, 1, 1, 5);
        y.match();
        Check.same("0", y.pairDifference(0), 0);
        Check.same("0", y.pairDifference(1), 0);
    }

    private static void noSuchPair() {
        Document.says(12, "if there is no such item (checked first)");
        Check.noSuch("pairDifference", 9, Twins.busy()::pairDifference);
        Check.noSuch("pairDifference of none", 0, Ledgers.of(TWO)::pairDifference);
        Check.noSuch("pairDifference of 100", 100, full()::pairDifference);
    }

    private static void notPaired() {
        Document.says(12, "if it is not paired");
        IntercompanyLedger x = Twins.busy();
        Check.noState("an open receivable", () -> x.pairDifference(6));
        Check.noState("an open payable", () -> x.pairDifference(7));
        Check.noState("a cancelled item", () -> x.pairDifference(8));
        x.release(3);
        Check.noState("a released receivable", () -> x.pairDifference(2));
        Check.noState("a released payable", () -> x.pairDifference(3));
    }

    // ---- promise 13

    private static void candidates() {
        Document.says(13, "Returns the number of open items of the other side that mirror it (for a payable, of receivables that it mirrors), whatever its own state.");
        IntercompanyLedger x = full();
        Check.same("as many as there can be", x.candidates(0), 99);
        Check.same("of a payable", x.candidates(99), 1);
        x.match();
        Check.same("of a paired receivable", x.candidates(0), 98);
        Check.same("of a paired payable", x.candidates(99), 0);
        Check.same("of an open payable", x.candidates(1), 0);
        IntercompanyLedger y = Twins.busy();
        y.book(1, 0, 1, 5, 1);
        y.book(1, 0, 1, 6, 1);
        y.book(1, 2, 1, 9, 1);
        y.book(2, 0, 1, 3, 1);
        int[] due = {1, 0, 1, 0, 1, 0, 1, 1, 1, 0, 0, 0, 0};
        for (int item = 0; item < due.length; item++) {
            Check.same("settled, matched, disputed, open, cancelled: " + item, y.candidates(item), due[item]);
        }
    }

    private static void mirrors() {
        Document.says(TEXT, "A payable mirrors a receivable if it was booked by the partner of the receivable, "
                + "its partner is the company of the receivable, and the references are the same.");
        IntercompanyLedger x = Ledgers.of(TWO + "company 0;");
        x.book(0, 1, 0, 7, 10);
        x.book(1, 0, 1, 8, 10);
        Check.same("another reference", x.candidates(0), 0);
        x.book(2, 0, 1, 7, 10);
        Check.same("another company", x.candidates(0), 0);
        x.book(1, 2, 1, 7, 10);
        Check.same("another partner", x.candidates(0), 0);
        x.book(1, 0, 0, 7, 10);
        Check.same("a receivable", x.candidates(0), 0);
        x.book(0, 1, 1, 7, 10);
        Check.same("a payable of the company itself", x.candidates(0), 0);
        x.book(0, 1, 0, 7, 10);
        Check.same("the same once more", x.candidates(0), 0);
        Check.same("none would be paired", x.wouldPair(0), NONE);
        x.book(1, 0, 1, 7, 10);
        Check.same("a mirror", x.candidates(0), 1);
        Check.same("of it", x.candidates(7), 2);
    }

    private static void noSuchCandidates() {
        Document.says(13, "if there is no such item");
        Check.noSuch("candidates", 9, Twins.busy()::candidates);
        Check.noSuch("candidates of none", 0, Ledgers.of(TWO)::candidates);
        Check.noSuch("candidates of 100", 100, full()::candidates);
    }

    // ---- promise 14

    private static void wouldPairOrNone() {
        Document.says(14, "Returns the payable with which a match run would pair it now; NONE if with none.");
        Document.says(14, "an open receivable");
        IntercompanyLedger x = full();
        Check.same("the last item", x.wouldPair(0), 99);
        IntercompanyLedger y = Ledgers.of(TWO);
        y.book(0, 1, 0, 1, 10);
        Check.same("there is no payable", y.wouldPair(0), NONE);
        y.book(1, 0, 1, 1, 1000000);
        Check.same("a dispute is a pair too", y.wouldPair(0), 1);
        y.book(0, 1, 0, 1, 1000000);
        Check.same("taken by a lower number", y.wouldPair(2), NONE);
        y.cancel(0);
        Check.same("free again", y.wouldPair(2), 1);
        y.cancel(1);
        Check.same("a cancelled payable", y.wouldPair(2), NONE);
    }

    private static void noSuchReceivable() {
        Document.says(14, "if there is no such item (checked first)");
        Check.noSuch("wouldPair", 9, Twins.busy()::wouldPair);
        Check.noSuch("wouldPair of none", 0, Ledgers.of(TWO)::wouldPair);
        Check.noSuch("wouldPair of 100", 100, full()::wouldPair);
    }

    private static void noOpenReceivable() {
        Document.says(14, "if it is not an open receivable");
        IntercompanyLedger x = Twins.busy();
        for (int item : new int[] {0, 1, 2, 3, 4, 5, 7, 8}) {
            Check.noState("item " + item, () -> x.wouldPair(item));
        }
        Check.same("the open receivable", x.wouldPair(6), 7);
        Twins.unchanged("wouldPair(6)", y -> y.wouldPair(6));
        Twins.unchanged("wouldPair(7)", y -> y.wouldPair(7));
    }

    // ---- promises 15 and 16

    private static void toleranceNeeded() {
        Document.says(15, "Returns the lowest tolerance with which a match run would dispute no pair now; NONE if it would form no pair.");
        IntercompanyLedger x = Ledgers.of(TWO);
        Check.same("no item", x.toleranceNeeded(), NONE);
        x.book(0, 1, 0, 1, 10);
        Check.same("no payable", x.toleranceNeeded(), NONE);
        x.book(1, 0, 1, 1, 10);
        Check.same("no difference", x.toleranceNeeded(), 0);
        x.book(0, 1, 0, 2, 1000000);
        x.book(1, 0, 1, 2, 999999);
        Check.same("one of them differs", x.toleranceNeeded(), 1);
        x.setRate(0, 9999);
        x.book(1, 0, 1, 3, 1000000);
        x.book(0, 1, 0, 3, 1);
        Check.same("more than a tolerance can be", x.toleranceNeeded(), 99990000 - 99);
        x.setTolerance(1000000);
        Check.same("the tolerance itself does not count", x.toleranceNeeded(), 99990000 - 99);
        x.match();
        Check.same("all are paired", x.toleranceNeeded(), NONE);
        Twins.unchanged("toleranceNeeded()", IntercompanyLedger::toleranceNeeded);
    }

    private static void toleranceIsEnough() {
        Document.says(15, "Returns the lowest tolerance with which a match run would dispute no pair now");
        for (int below = 0; below <= 1; below++) {
            IntercompanyLedger x = Ledgers.of(TWO);
            x.book(0, 1, 0, 1, 10);
            x.book(1, 0, 1, 1, 13);
            x.book(1, 0, 0, 1, 25);
            x.book(0, 1, 1, 1, 20);
            x.setTolerance((int) x.toleranceNeeded() - below);
            x.match();
            Check.same("the lesser difference", x.item(0, 4), 1);
            Check.same("the greater difference", x.item(2, 4), 1 + below);
        }
    }

    private static void matchRates() {
        Document.says(16, "both converted to float; 0.0f if there are none");
        IntercompanyLedger x = Ledgers.of(TWO);
        Check.sameFloat("no item", x.matchRate(), 0.0f);
        x.book(0, 1, 0, 1, 10);
        x.book(1, 0, 1, 2, 10);
        x.match();
        Check.sameFloat("open items alone", x.matchRate(), 0.0f);
        x.cancel(0);
        Check.sameFloat("a cancelled item", x.matchRate(), 0.0f);
        x.book(0, 1, 0, 2, 11);
        x.match();
        Check.sameFloat("one disputed pair", x.matchRate(), 0.0f);
        x.book(0, 1, 0, 3, 11);
        x.book(1, 0, 1, 3, 11);
        x.match();
        Check.sameFloat("one of two", x.matchRate(), 0.5f);
        x.net();
        Check.sameFloat("a settled one of two", x.matchRate(), 0.5f);
        x.book(0, 1, 0, 4, 11);
        x.book(1, 0, 1, 4, 11);
        x.match();
        Check.sameFloat("a settled and a matched one of three", x.matchRate(), 2.0f / 3.0f);
        x.accept(1);
        Check.sameFloat("all", x.matchRate(), 1.0f);
    }

    private static void matchRateOfFifty() {
        Document.says(16, "divided by the number of matched, settled and disputed pairs");
        IntercompanyLedger x = Ledgers.of(TWO);
        for (int pair = 0; pair < 50; pair++) {
            x.book(0, 1, 0, pair, 10);
            x.book(1, 0, 1, pair, pair < 7 ? 10 : 11);
        }
        Check.same("fifty pairs", x.match(), 50);
        Check.sameFloat("seven of fifty", x.matchRate(), 7.0f / 50.0f);
    }

    // ---- promise 17

    private static void balances() {
        Document.says(17, "the sum of the values of the open, matched and disputed receivables of a company against a partner");
        IntercompanyLedger x = Twins.busy();
        Check.same("a matched pair; the settled one does not count", x.balance(0, 1), 10);
        Check.same("nothing the other way", x.balance(1, 0), 0);
        Check.same("a disputed pair", x.balance(2, 1), 50);
        Check.same("open items; the cancelled one does not count", x.balance(0, 2), -2);
    }

    private static void balanceOfTheSame() {
        Document.says(17, "Returns the balance; 0 if both are the same.");
        IntercompanyLedger x = Twins.busy();
        for (int company = 0; company < 3; company++) {
            Check.same("with itself", x.balance(company, company), 0);
        }
    }

    private static void balanceOfNone() {
        Document.says(17, "if there is no such company");
        IntercompanyLedger x = Twins.busy();
        Check.noSuch("balance", 3, company -> x.balance(company, 0));
        Check.noSuch("balance of a partner", 3, partner -> x.balance(0, partner));
        Check.noSuch("balance of both", 3, both -> x.balance(both, both));
        Check.noSuch("balance in an empty group", 0, company -> new IntercompanyLedger().balance(company, company));
    }

    // ---- promise 18

    private static void totals() {
        Document.says(18, "Returns a sum over all items or since the beginning.");
        Document.says(18, "0: the values of all open, matched and disputed receivables minus those of such payables");
        Document.says(18, "Returns the sum.");
        IntercompanyLedger x = Twins.busy();
        long[] due = {58, -2, 10, 50, 5, 14, 160, 100 + 200};
        for (int what = 0; what <= 7; what++) {
            Check.same("total " + what, x.total(what), due[what]);
        }
        IntercompanyLedger y = Ledgers.of(Ledgers.THREE);
        for (int what = 0; what <= 7; what++) {
            Check.same("total at the beginning " + what, y.total(what), 0);
        }
    }

    private static void totalsOfFirstAndLast() {
        Document.says(18, "likewise of open items alone; 2: of matched items alone; 3: of disputed items alone");
        IntercompanyLedger x = Ledgers.of(TWO);
        x.book(1, 0, 1, 7, 1000000);
        Check.same("a payable alone", x.total(0), -1000000);
        Check.same("open", x.total(1), -1000000);
        for (int item = 1; item < 99; item++) {
            x.book(0, 1, 0, 8, 1);
        }
        x.book(0, 1, 0, 7, 1000000);
        Check.same("the first and the last", x.total(0), 98);
        Check.same("open", x.total(1), 98);
        x.match();
        Check.same("open ones in between", x.total(1), 98);
        Check.same("matched, the first and the last", x.total(2), 0);
        x.undo();
        x.undo();
        x.book(0, 1, 0, 7, 999999);
        x.match();
        Check.same("matched", x.total(2), 0);
        Check.same("disputed, the first and the last", x.total(3), -1);
    }

    private static void totalOutOfRange() {
        Document.says(18, "if what is out of range");
        Check.outOfRange("total", 0, 7, Twins.busy()::total);
        Check.outOfRange("total of a new object", 0, 7, new IntercompanyLedger()::total);
    }

    static void all() {
        properties();
        pairOrNone();
        states();
        noSuchItem();
        whatOutOfRange();
        amounts();
        noSuchAmount();
        values();
        greatestValue();
        settledAndCancelledValues();
        noSuchValue();
        currencyDifferences();
        noSuchCurrencyDifference();
        pairDifferences();
        noSuchPair();
        notPaired();
        pairing();
    }

    private static void pairing() {
        candidates();
        mirrors();
        noSuchCandidates();
        wouldPairOrNone();
        noSuchReceivable();
        noOpenReceivable();
        toleranceNeeded();
        toleranceIsEnough();
        matchRates();
        matchRateOfFifty();
        balances();
        balanceOfTheSame();
        balanceOfNone();
        totals();
        totalsOfFirstAndLast();
        totalOutOfRange();
    }
}
