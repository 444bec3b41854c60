/** Promises 19 to 22 and 37: positions, payments, net. */
public final class NettingTest {

    private static final String SIX = "currency 100;" + "company 0;".repeat(6) + "center 1;fee 9;";

    private static void matched(IntercompanyLedger x, int from, int to, int amount) {
        int item = x.book(to, from, 0, 1, amount);
        x.book(from, to, 1, 1, amount);
        x.match();
        Check.same("the pair is matched", x.item(item, 4), 1);
    }

    private static void positions() {
        IntercompanyLedger x = Ledgers.of(Ledgers.THREE);
        x.book(0, 1, 0, 5, 1000);
        x.book(1, 0, 1, 5, 2010);
        x.book(2, 1, 0, 9, 500);
        x.book(1, 2, 1, 9, 900);
        x.book(2, 1, 0, 10, 500);
        Check.same("open items give no position", x.position(0), 0);
        x.match();
        Check.same("position 0", x.position(0), 1000);
        Check.same("the value of the receivable counts", x.position(1), -1000);
        Check.same("disputed does not count", x.position(2), 0);
        x.setRate(0, 110);
        Check.same("present values", x.position(0), 1100);
        Check.noIndex("position 3", () -> x.position(3));
        Check.noIndex("position -1", () -> x.position(-1));
    }

    private static void settledPositions() {
        IntercompanyLedger x = Ledgers.of(SIX);
        for (int company = 0; company < 6; company++) {
            Check.same("none yet", x.settledPosition(company), 0);
        }
        matched(x, 0, 1, 70);
        matched(x, 0, 2, 30);
        Check.same("net", x.net(), 2);
        Check.same("settled 0", x.settledPosition(0), -100);
        Check.same("settled 1", x.settledPosition(1), 70);
        Check.same("settled 2", x.settledPosition(2), 30);
        Check.same("position after", x.position(0), 0);
        matched(x, 3, 4, 5);
        Check.same("settled before the next run", x.settledPosition(0), -100);
        x.net();
        Check.same("the latest run alone", x.settledPosition(0), 0);
        Check.same("the latest run alone", x.settledPosition(3), -5);
        Check.same("the latest run alone", x.settledPosition(4), 5);
        x.undo();
        Check.same("undone", x.settledPosition(0), -100);
        Check.same("undone", x.settledPosition(3), 0);
        Check.noIndex("settledPosition 6", () -> x.settledPosition(6));
        Check.noIndex("settledPosition -1", () -> x.settledPosition(-1));
    }

    private static void net() {
        IntercompanyLedger x = Ledgers.of(Ledgers.THREE);
        Check.noState("no items", x::net);
        x.book(0, 1, 0, 5, 1000);
        x.book(1, 0, 1, 5, 1980);
        Check.noState("no pair", x::net);
        x.book(0, 2, 0, 6, 1000);
        x.book(2, 0, 1, 6, 100);
        x.book(1, 2, 0, 7, 1000);
        x.book(2, 1, 1, 7, 499);
        x.match();
        Check.same("net", x.net(), 2);
        Check.same("rounding: 10 + 1", x.total(4), 11);
        Check.same("fees", x.total(5), 14);
        Check.same("position of the center", x.settledPosition(2), -500);
        Check.noState("only a disputed pair is left", x::net);
        Check.same("a refused run changes nothing", x.total(5), 14);
        Check.same("undo", x.undo(), 7);
        Check.same("fees undone", x.total(5), 0);
        Check.same("rounding undone", x.total(4), 0);
        Check.same("matched again", x.item(0, 4), 1);
        Check.same("matched again", x.position(0), 1000);
        x.setTolerance(0);
        x.net();
        x.accept(2);
        Check.same("one payment besides the center", x.net(), 1);
        Check.same("sums go on", x.total(5), 21);
        Check.same("sums go on", x.total(4), 11);
    }

    private static void evenPositions() {
        IntercompanyLedger x = Ledgers.of(SIX);
        matched(x, 0, 2, 10);
        matched(x, 2, 3, 10);
        matched(x, 3, 0, 10);
        Check.same("direct payments in a ring", x.directPayments(), 3);
        Check.same("fewest payments in a ring", x.fewestPayments(), 0);
        Check.same("no position, no payment", x.net(), 0);
        Check.same("no fee", x.total(5), 0);
        Check.same("settled", x.item(0, 4), 3);
    }

    private static void directPayments() {
        IntercompanyLedger x = Ledgers.of(SIX);
        matched(x, 0, 1, 10);
        Check.same("one", x.directPayments(), 1);
        matched(x, 1, 0, 4);
        Check.same("still one", x.directPayments(), 1);
        matched(x, 1, 0, 6);
        Check.same("even", x.directPayments(), 0);
        matched(x, 0, 2, 6);
        matched(x, 3, 0, 6);
        Check.same("two", x.directPayments(), 2);
        x.book(4, 5, 0, 3, 10);
        x.book(5, 4, 1, 3, 11);
        x.match();
        Check.same("disputed does not count", x.directPayments(), 2);
        x.net();
        Check.same("settled does not count", x.directPayments(), 0);
    }

    private static void payablesDoNotCount() {
        IntercompanyLedger x = Ledgers.of("currency 100;company 0;company 0;tolerance 5;");
        x.book(0, 1, 0, 1, 100);
        x.book(1, 0, 1, 1, 103);
        x.book(1, 0, 0, 2, 100);
        x.book(0, 1, 1, 2, 100);
        x.match();
        Check.same("the receivables are even", x.directPayments(), 0);
        Check.same("the receivables are even", x.fewestPayments(), 0);
        Check.same("no payment", x.net(), 0);
        Check.same("the rounding account has the rest", x.total(4), -3);
        x.book(0, 1, 0, 1, 100);
        x.book(1, 0, 1, 1, 103);
        x.book(1, 0, 0, 2, 101);
        x.book(0, 1, 1, 2, 103);
        x.match();
        Check.same("the payables are even", x.directPayments(), 1);
        Check.same("position", x.position(0), -1);
        Check.same("one payment", x.net(), 1);
    }

    private static void fewest(int due, int[]... debts) {
        IntercompanyLedger x = Ledgers.of(SIX);
        StringBuilder told = new StringBuilder();
        for (int[] debt : debts) {
            matched(x, debt[0], debt[1], debt[2]);
            told.append(debt[0]).append(" owes ").append(debt[1]).append(" ").append(debt[2]).append(", ");
        }
        Check.same("fewest payments of " + told, x.fewestPayments(), due);
    }

    private static void fewestPayments() {
        fewest(0);
        fewest(1, new int[] {0, 5, 3});
        fewest(1, new int[] {0, 5, 3}, new int[] {5, 4, 3});
        fewest(2, new int[] {0, 5, 3}, new int[] {5, 4, 2});
        fewest(2, new int[] {0, 5, 3}, new int[] {1, 4, 3});
        fewest(3, new int[] {0, 5, 3}, new int[] {1, 4, 3}, new int[] {2, 3, 7});
        // Positions -5, -3, -2, 5, 4, 1: the 5 goes one way, and three of the others are left over.
        fewest(4, new int[] {0, 3, 4}, new int[] {0, 4, 1}, new int[] {1, 4, 3}, new int[] {2, 5, 1}, new int[] {2, 3, 1});
        // Positions -10, -1, 2, 3, 4, 2 have no part with sum 0.
        fewest(5, new int[] {0, 2, 2}, new int[] {0, 3, 3}, new int[] {0, 4, 4}, new int[] {0, 5, 1}, new int[] {1, 5, 1});
        // A chain through all, whose middle is even.
        fewest(1, new int[] {0, 1, 8}, new int[] {1, 2, 8}, new int[] {2, 3, 8}, new int[] {3, 4, 8}, new int[] {4, 5, 8});
    }

    public static void main(String[] args) {
        positions();
        settledPositions();
        net();
        evenPositions();
        directPayments();
        payablesDoNotCount();
        fewestPayments();
        Check.end();
    }
}
