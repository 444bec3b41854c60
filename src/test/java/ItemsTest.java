/** Promises 8 to 18: item, amount, value, differences, candidates, matching told, balances, totals. */
public final class ItemsTest {

    private static final int NONE = IntercompanyLedger.NONE;

    private static void items() {
        IntercompanyLedger x = Ledgers.of(Ledgers.THREE);
        x.book(0, 1, 0, 999, 1000000);
        x.book(1, 0, 1, 0, 1);
        x.book(2, 1, 1, 7, 12);
        int[][] due = {{0, 1, 0, 999, 0, NONE}, {1, 0, 1, 0, 0, NONE}, {2, 1, 1, 7, 0, NONE}};
        for (int item = 0; item < 3; item++) {
            for (int what = 0; what < 6; what++) {
                Check.same("item " + item + " " + what, x.item(item, what), due[item][what]);
            }
        }
        Check.noIndex("item 3", () -> x.item(3, 0));
        Check.noIndex("item -1", () -> x.item(-1, 0));
        Check.noIndex("item is checked first", () -> x.item(100, 6));
        Check.noArgument("what 6", () -> x.item(0, 6));
        Check.noArgument("what -1", () -> x.item(2, -1));
        Check.same("amount 0", x.amount(0), 1000000);
        Check.same("amount 2", x.amount(2), 12);
        Check.noIndex("amount 3", () -> x.amount(3));
        Check.noIndex("amount -1", () -> x.amount(-1));
        x.cancel(2);
        Check.same("the amount of a cancelled item stays", x.amount(2), 12);
        Check.same("state 4", x.item(2, 4), 4);
        Check.same("a cancelled item has no pair", x.item(2, 5), NONE);
    }

    private static void statesAndPairs() {
        IntercompanyLedger x = Ledgers.of(Ledgers.THREE);
        x.book(1, 0, 1, 5, 2000);
        x.book(0, 1, 0, 5, 1000);
        x.book(2, 0, 0, 6, 500);
        x.book(0, 2, 1, 6, 600);
        x.match();
        Check.same("matched", x.item(0, 4), 1);
        Check.same("matched", x.item(1, 4), 1);
        Check.same("pair", x.item(0, 5), 1);
        Check.same("pair", x.item(1, 5), 0);
        Check.same("disputed", x.item(2, 4), 2);
        Check.same("disputed", x.item(3, 4), 2);
        Check.same("pair", x.item(2, 5), 3);
        Check.same("pair", x.item(3, 5), 2);
        x.net();
        Check.same("settled", x.item(0, 4), 3);
        Check.same("settled", x.item(1, 4), 3);
        Check.same("a settled item stays paired", x.item(0, 5), 1);
        Check.same("a disputed item stays disputed", x.item(2, 4), 2);
    }

    private static void values() {
        IntercompanyLedger x = Ledgers.of("currency 150;currency 9999;company 0;company 1;");
        x.book(0, 1, 0, 1, 1);
        x.book(0, 1, 0, 2, 3);
        x.book(1, 0, 1, 1, 1000000);
        Check.same("value truncates", x.value(0), 1);
        Check.same("value truncates", x.value(1), 4);
        Check.same("a great value", x.value(2), 99990000);
        Check.noIndex("value 3", () -> x.value(3));
        Check.noIndex("value -1", () -> x.value(-1));
        Check.same("difference at first", x.currencyDifference(1), 0);
        x.setRate(0, 99);
        Check.same("value by the present rate", x.value(0), 0);
        Check.same("value by the present rate", x.value(1), 2);
        Check.same("difference", x.currencyDifference(0), -1);
        Check.same("difference", x.currencyDifference(1), -2);
        Check.same("the other currency", x.currencyDifference(2), 0);
        x.cancel(1);
        Check.same("a cancelled value", x.value(1), 0);
        Check.same("a cancelled difference", x.currencyDifference(1), 0);
        Check.noIndex("difference 3", () -> x.currencyDifference(3));
        Check.noIndex("difference -1", () -> x.currencyDifference(-1));
    }

    private static void settledValues() {
        IntercompanyLedger x = Ledgers.of(Ledgers.THREE);
        x.book(0, 1, 0, 5, 1000);
        x.book(1, 0, 1, 5, 2000);
        x.match();
        x.setRate(1, 51);
        x.setRate(0, 101);
        x.net();
        x.setRate(0, 9999);
        x.setRate(1, 1);
        Check.same("settled value", x.value(0), 1010);
        Check.same("settled value", x.value(1), 1020);
        Check.same("settled difference", x.currencyDifference(0), 10);
        Check.same("settled difference", x.currencyDifference(1), 20);
        Check.same("settled pair difference", x.pairDifference(0), -10);
        Check.same("settled pair difference", x.pairDifference(1), -10);
        Check.same("the amount stays", x.amount(0), 1000);
    }

    private static void pairDifferences() {
        IntercompanyLedger x = Ledgers.of(Ledgers.THREE);
        x.book(1, 0, 1, 5, 1980);
        x.book(0, 1, 0, 5, 1000);
        x.book(2, 0, 0, 5, 400);
        x.book(0, 2, 1, 5, 900);
        x.book(0, 2, 1, 4, 900);
        Check.noState("not paired", () -> x.pairDifference(0));
        x.match();
        Check.same("of the payable", x.pairDifference(0), 10);
        Check.same("of the receivable", x.pairDifference(1), 10);
        Check.same("disputed", x.pairDifference(2), -500);
        Check.same("disputed", x.pairDifference(3), -500);
        Check.noState("not paired", () -> x.pairDifference(4));
        Check.noIndex("pairDifference 5", () -> x.pairDifference(5));
        Check.noIndex("pairDifference -1", () -> x.pairDifference(-1));
        x.setRate(1, 60);
        Check.same("by the present rate", x.pairDifference(1), -188);
        x.release(1);
        Check.noState("released", () -> x.pairDifference(1));
        x.cancel(4);
        Check.noState("cancelled", () -> x.pairDifference(4));
    }

    private static void candidates() {
        IntercompanyLedger x = Ledgers.of(Ledgers.THREE);
        x.book(0, 1, 0, 5, 1000); // 0
        x.book(0, 1, 0, 5, 2000); // 1
        x.book(1, 0, 1, 5, 1000); // 2
        x.book(1, 0, 1, 5, 1000); // 3
        x.book(1, 0, 1, 5, 1000); // 4
        x.book(1, 0, 1, 6, 1000); // 5: another reference
        x.book(1, 2, 1, 5, 1000); // 6: another partner
        x.book(2, 0, 1, 5, 1000); // 7: another company
        x.book(1, 0, 0, 5, 1000); // 8: not a payable
        x.book(0, 1, 1, 5, 1000); // 9: mirrors 8 alone
        int[] due = {3, 3, 2, 2, 2, 0, 0, 0, 1, 1};
        for (int item = 0; item < due.length; item++) {
            Check.same("candidates " + item, x.candidates(item), due[item]);
        }
        x.cancel(3);
        Check.same("without the cancelled", x.candidates(0), 2);
        Check.same("of the cancelled itself", x.candidates(3), 2);
        x.match();
        Check.same("all are paired", x.candidates(0), 0);
        Check.same("of a cancelled payable", x.candidates(3), 0);
        x.book(1, 0, 1, 5, 1);
        Check.same("of a paired item", x.candidates(0), 1);
        Check.noIndex("candidates 11", () -> x.candidates(11));
        Check.noIndex("candidates -1", () -> x.candidates(-1));
    }

    private static void wouldPair() {
        IntercompanyLedger x = Ledgers.of("currency 100;company 0;company 0;tolerance 5;");
        x.book(0, 1, 0, 5, 100); // 0
        x.book(0, 1, 0, 5, 110); // 1
        x.book(0, 1, 0, 5, 500); // 2
        x.book(1, 0, 1, 5, 112); // 3
        x.book(1, 0, 1, 5, 109); // 4
        Check.same("the nearest", x.wouldPair(0), 4);
        Check.same("what the lower numbers leave", x.wouldPair(1), 3);
        Check.same("nothing is left", x.wouldPair(2), NONE);
        Check.same("the widest of the pairs", x.toleranceNeeded(), 9);
        Check.noState("a payable", () -> x.wouldPair(3));
        Check.noIndex("wouldPair 5", () -> x.wouldPair(5));
        Check.noIndex("wouldPair -1", () -> x.wouldPair(-1));
        Check.same("telling changes nothing", x.item(0, 4) + x.item(4, 4), 0);
        Check.same("telling is no change", x.undo(), 4);
        x.book(1, 0, 1, 5, 109);
        Check.same("match", x.match(), 2);
        Check.same("as told", x.item(0, 5), 4);
        Check.same("as told", x.item(1, 5), 3);
        Check.noState("not open", () -> x.wouldPair(0));
        Check.same("no pair now", x.toleranceNeeded(), NONE);
        x.cancel(2);
        Check.noState("cancelled", () -> x.wouldPair(2));
    }

    private static void lowestOfSeveral() {
        IntercompanyLedger x = Ledgers.of("currency 100;company 0;company 0;");
        x.book(1, 0, 1, 5, 105);
        x.book(1, 0, 1, 5, 95);
        x.book(0, 1, 0, 5, 100);
        Check.same("of several the lowest number", x.wouldPair(2), 0);
        Check.same("tolerance for them", x.toleranceNeeded(), 5);
        x.match();
        Check.same("paired so", x.item(2, 5), 0);
        Check.same("disputed over 0", x.item(2, 4), 2);
        x.undo();
        x.setTolerance(4);
        x.match();
        Check.same("one too low", x.item(2, 4), 2);
        x.undo();
        x.setTolerance(5);
        x.match();
        Check.same("at the tolerance", x.item(2, 4), 1);
        IntercompanyLedger y = Ledgers.of("currency 100;company 0;company 0;");
        y.book(1, 0, 1, 5, 100);
        y.book(0, 1, 0, 5, 100);
        Check.same("no tolerance is needed", y.toleranceNeeded(), 0);
        y.match();
        Check.same("matched", y.item(0, 4), 1);
    }

    private static void receivablesChoose() {
        IntercompanyLedger x = Ledgers.of("currency 100;company 0;company 0;");
        x.book(1, 0, 1, 5, 105);
        x.book(0, 1, 0, 5, 100);
        x.book(0, 1, 0, 5, 105);
        Check.same("the lower receivable takes the only payable", x.wouldPair(1), 0);
        Check.same("though it would fit the other", x.wouldPair(2), NONE);
        Check.same("tolerance", x.toleranceNeeded(), 5);
        Check.same("match", x.match(), 1);
        Check.same("pair", x.item(0, 5), 1);
        Check.same("left over", x.item(2, 4), 0);
    }

    /** Rows that were undone must not be seen, and full rows must be seen to the last. */
    private static void rowsAtTheEnd() {
        IntercompanyLedger x = Ledgers.of(Ledgers.THREE);
        String empty = Picture.of(x);
        x.deliver(0, 0, 1, 10, 500);
        x.book(0, 1, 0, 5, 1000);
        x.book(1, 0, 1, 5, 2000);
        x.match();
        for (int i = 0; i < 4; i++) {
            x.undo();
        }
        Check.sameText("undone rows", Picture.of(x), empty);
        x.book(0, 1, 0, 5, 1000);
        Check.same("an undone payable is no candidate", x.candidates(0), 0);
        Check.same("an undone payable is not paired", x.wouldPair(0), NONE);
        Check.same("an undone payable is not matched", x.match(), 0);
        x.undo();
        x.undo();
        while (x.size(3) < 98) {
            x.book(0, 2, 0, 1, 1);
        }
        x.book(0, 1, 0, 5, 1000);
        x.book(1, 0, 1, 5, 1980);
        Check.same("the last candidate", x.candidates(98), 1);
        Check.same("the last pair", x.wouldPair(98), 99);
        Check.same("tolerance", x.toleranceNeeded(), 10);
        Check.same("match", x.match(), 1);
        Check.same("position", x.position(1), -1000);
        Check.same("balance", x.balance(0, 1), 10);
        Check.same("total", x.total(0), 108);
        Check.same("payments", x.directPayments() + x.fewestPayments(), 2);
        Check.same("net", x.net(), 2);
        Check.same("rounding", x.total(4), 10);
        Check.sameFloat("rate", x.matchRate(), 1.0f);
    }

    private static void matchRates() {
        IntercompanyLedger x = Ledgers.of("currency 100;company 0;company 0;");
        Check.sameFloat("none", x.matchRate(), 0.0f);
        x.book(0, 1, 0, 1, 100);
        Check.sameFloat("open items are no pairs", x.matchRate(), 0.0f);
        x.book(1, 0, 1, 1, 101);
        x.match();
        Check.sameFloat("all disputed", x.matchRate(), 0.0f);
        for (int i = 2; i <= 3; i++) {
            x.book(0, 1, 0, i, 100);
            x.book(1, 0, 1, i, 100);
        }
        x.book(1, 0, 1, 77, 100);
        x.book(1, 0, 1, 77, 100);
        x.cancel(7);
        x.match();
        Check.sameFloat("two of three", x.matchRate(), 2.0f / 3.0f);
        x.net();
        Check.sameFloat("settled counts", x.matchRate(), 2.0f / 3.0f);
        x.book(0, 1, 0, 9, 100);
        x.book(1, 0, 1, 9, 100);
        x.match();
        Check.sameFloat("settled and matched", x.matchRate(), 3.0f / 4.0f);
        x.release(0);
        Check.sameFloat("all agreed", x.matchRate(), 1.0f);
    }

    private static void balances() {
        IntercompanyLedger x = Ledgers.of(Ledgers.THREE);
        x.book(0, 1, 0, 5, 1000); // value 1000
        x.book(1, 0, 1, 5, 1980); // value 990
        x.book(1, 0, 0, 6, 70);   // value 35
        x.book(0, 1, 1, 6, 500);  // value 500
        x.book(0, 2, 0, 5, 3);
        x.book(0, 1, 0, 8, 10000);
        x.cancel(5);
        Check.same("balance 0 1", x.balance(0, 1), 10);
        Check.same("balance 1 0", x.balance(1, 0), -465);
        Check.same("balance 0 2", x.balance(0, 2), 3);
        Check.same("balance 2 0", x.balance(2, 0), 0);
        Check.same("the same", x.balance(0, 0), 0);
        x.match();
        Check.same("matched counts", x.balance(0, 1), 10);
        Check.same("disputed counts", x.balance(1, 0), -465);
        x.setRate(1, 100);
        Check.same("present values", x.balance(0, 1), -980);
        x.net();
        Check.same("settled does not count", x.balance(0, 1), 0);
        x.book(0, 1, 0, 8, 44);
        Check.same("an open item behind settled ones", x.balance(0, 1), 44);
        Check.noIndex("balance 3 0", () -> x.balance(3, 0));
        Check.noIndex("balance 0 3", () -> x.balance(0, 3));
        Check.noIndex("balance -1 0", () -> x.balance(-1, 0));
        Check.noIndex("balance 0 -1", () -> x.balance(0, -1));
        Check.noIndex("balance 5 5", () -> x.balance(5, 5));
    }

    private static void totals() {
        IntercompanyLedger x = Ledgers.of(Ledgers.THREE);
        x.book(0, 1, 0, 5, 1000); // 1000
        x.book(1, 0, 1, 5, 1980); // 990
        x.book(1, 0, 0, 6, 70);   // 35
        x.book(0, 1, 1, 6, 500);  // 500
        x.book(0, 2, 0, 5, 3);    // 3
        x.book(0, 2, 0, 5, 40);
        x.cancel(5);
        Check.same("all are open", x.total(0), -452);
        Check.same("open", x.total(1), -452);
        x.match();
        Check.same("all", x.total(0), -452);
        Check.same("open", x.total(1), 3);
        Check.same("matched", x.total(2), 10);
        Check.same("disputed", x.total(3), -465);
        x.net();
        Check.same("all but settled", x.total(0), -462);
        Check.same("matched", x.total(2), 0);
        Check.same("rounding", x.total(4), 10);
        Check.same("fees", x.total(5), 14);
        x.deliver(0, 0, 1, 10, 130);
        x.deliver(0, 0, 2, 3, 90);
        Check.same("unrealized", x.total(7), 270);
        x.sell(1, 0, 4, 150);
        x.sell(0, 0, 1, 1);
        Check.same("realized", x.total(6), 101);
        Check.same("unrealized", x.total(7), 150);
        Check.noArgument("total 8", () -> x.total(8));
        Check.noArgument("total -1", () -> x.total(-1));
    }

    public static void main(String[] args) {
        items();
        statesAndPairs();
        values();
        settledValues();
        pairDifferences();
        candidates();
        wouldPair();
        lowestOfSeveral();
        receivablesChoose();
        rowsAtTheEnd();
        matchRates();
        balances();
        totals();
        Check.end();
    }
}
