/** Boundary cases of promises 19 to 22 and 37 and of NETTING: a test for each sentence that names one. */
final class NettingEdges {

    private static final int TEXT = Document.DESCRIPTION;

    private static final String SIX = "currency 100;" + "company 0;".repeat(6) + "center 1;fee 9;";

    private NettingEdges() {
    }

    /** Adds a matched pair by which one company owes an amount to another. */
    private static void owes(IntercompanyLedger x, int debtor, int creditor, int amount) {
        x.book(creditor, debtor, 0, 1, amount);
        x.book(debtor, creditor, 1, 1, amount);
        x.match();
    }

    // ---- promise 19

    private static void positions() {
        Document.says(19, "Returns its position.");
        Document.says(TEXT, "The position of a company is the sum, over all matched pairs, of the value of the receivable if the company has booked it");
        IntercompanyLedger x = Twins.busy();
        Check.same("the receivable of a matched pair", x.position(0), 1000);
        Check.same("minus the receivable, not the payable", x.position(1), -1000);
        Check.same("settled, disputed and open items do not count", x.position(2), 0);
        x.net();
        Check.same("no matched pair is left", x.position(0), 0);
        Check.same("no matched pair is left", x.position(1), 0);
        IntercompanyLedger y = Ledgers.of(SIX);
        Check.same("no item", y.position(5), 0);
        owes(y, 0, 5, 7);
        owes(y, 5, 0, 7);
        Check.same("evened out", y.position(5), 0);
    }

    private static void positionOfFiftyPairs() {
        Document.says(TEXT, "The position of a company is the sum, over all matched pairs");
        IntercompanyLedger x = Ledgers.of("currency 9999;company 0;company 0;");
        for (int pair = 0; pair < 50; pair++) {
            owes(x, 0, 1, 1000000);
        }
        Check.same("the debtor", x.position(0), -50 * 99990000L);
        Check.same("the creditor", x.position(1), 50 * 99990000L);
        Check.same("direct payments", x.directPayments(), 1);
        Check.same("net", x.net(), 1);
        Check.same("settled", x.settledPosition(0), -50 * 99990000L);
    }

    private static void noSuchPosition() {
        Document.says(19, "if there is no such company");
        Check.noSuch("position", 3, Twins.busy()::position);
        Check.noSuch("position of six", 6, Ledgers.of(SIX)::position);
        Check.noSuch("position of none", 0, new IntercompanyLedger()::position);
    }

    // ---- promise 20

    private static void settledPositionOrNone() {
        Document.says(20, "Returns its position in the latest netting run; 0 if there was none.");
        IntercompanyLedger x = Ledgers.of(SIX);
        owes(x, 0, 5, 7);
        Check.same("there was no run", x.settledPosition(5), 0);
        x.net();
        Check.same("the latest run", x.settledPosition(0), -7);
        Check.same("the latest run", x.settledPosition(5), 7);
        Check.same("not in the run", x.settledPosition(1), 0);
        owes(x, 1, 2, 3);
        Check.noState("a refused call", () -> x.release(0));
        Check.same("a match run is no netting run", x.settledPosition(5), 7);
        x.net();
        Check.same("of the run before", x.settledPosition(5), 0);
        Check.same("the center has a position too", x.settledPosition(1), -3);
        Check.same("the latest run", x.settledPosition(2), 3);
        x.undo();
        Check.same("the run before is the latest again", x.settledPosition(5), 7);
        Check.same("the run before is the latest again", x.settledPosition(2), 0);
        Ledgers.parse(x, SIX);
        Check.same("there was none in the new group", x.settledPosition(5), 0);
    }

    private static void settledPositionStays() {
        Document.says(20, "Returns its position in the latest netting run");
        IntercompanyLedger x = Ledgers.of(SIX);
        owes(x, 0, 5, 7);
        x.net();
        x.setRate(0, 9999);
        Check.same("by the rate of then", x.settledPosition(5), 7);
        Check.noState("a refused run", x::net);
        Check.same("a refused run is none", x.settledPosition(5), 7);
    }

    private static void noSuchSettledPosition() {
        Document.says(20, "if there is no such company");
        Check.noSuch("settledPosition", 3, Twins.busy()::settledPosition);
        Check.noSuch("settledPosition of six", 6, Ledgers.of(SIX)::settledPosition);
        Check.noSuch("settledPosition of none", 0, new IntercompanyLedger()::settledPosition);
    }

    // ---- promise 21

    private static void directPayments() {
        Document.says(21, "those for which the values of the receivables of matched pairs of one against the other are not the same in sum as those of the other against the one");
        Check.same("no company", new IntercompanyLedger().directPayments(), 0);
        IntercompanyLedger x = Ledgers.of(SIX);
        Check.same("no item", x.directPayments(), 0);
        owes(x, 0, 1, 6);
        Check.same("one way", x.directPayments(), 1);
        owes(x, 1, 0, 5);
        Check.same("both ways, not the same", x.directPayments(), 1);
        owes(x, 1, 0, 1);
        Check.same("both ways, the same in sum", x.directPayments(), 0);
        x.book(0, 2, 0, 2, 5);
        x.book(2, 0, 1, 2, 6);
        Check.same("open", x.directPayments(), 0);
        x.match();
        Check.same("disputed", x.directPayments(), 0);
        x.accept(6);
        Check.same("accepted", x.directPayments(), 1);
        x.net();
        Check.same("settled", x.directPayments(), 0);
    }

    private static void mostDirectPayments() {
        Document.says(21, "Returns the number of pairs of companies between which something would have to be paid if there were no netting center");
        IntercompanyLedger x = Ledgers.of(SIX);
        int pairs = 0;
        for (int one = 0; one < 6; one++) {
            for (int other = one + 1; other < 6; other++) {
                owes(x, one, other, 1);
                pairs++;
                Check.same("pairs", x.directPayments(), pairs);
            }
        }
        Check.same("all pairs of six", x.directPayments(), 15);
    }

    private static void payablesOfDirectPayments() {
        Document.says(21, "the values of the receivables of matched pairs");
        IntercompanyLedger x = Ledgers.of(SIX + "tolerance 5;");
        x.book(0, 2, 0, 1, 10);
        x.book(2, 0, 1, 1, 12);
        x.book(2, 0, 0, 2, 10);
        x.book(0, 2, 1, 2, 9);
        x.match();
        Check.same("the payables do not count", x.directPayments(), 0);
    }

    // ---- promise 22

    private static void fewest(String told, int due, int... positions) {
        Document.says(22, "Returns the fewest payments, each from any company to any other, after which the positions of all companies would be 0.");
        IntercompanyLedger x = Ledgers.of(SIX);
        int owed = 0;
        // A chain gives each company its position: what it has not from the one before comes from the next.
        for (int company = 0; company < positions.length - 1; company++) {
            owed += positions[company];
            if (owed > 0) {
                owes(x, company + 1, company, owed);
            } else if (owed < 0) {
                owes(x, company, company + 1, -owed);
            }
        }
        for (int company = 0; company < positions.length; company++) {
            Check.same(told + ": position " + company, x.position(company), positions[company]);
        }
        Check.same(told, x.fewestPayments(), due);
    }

    private static void fewestPayments() {
        Check.same("no company", new IntercompanyLedger().fewestPayments(), 0);
        Check.same("one company", Ledgers.of("currency 1;company 0;").fewestPayments(), 0);
        fewest("no position", 0, 0, 0, 0, 0, 0, 0);
        fewest("the first and the last", 1, 5, 0, 0, 0, 0, -5);
        fewest("one to two", 2, 5, -3, 0, 0, -2, 0);
        fewest("two parts of two", 2, 5, 3, 0, 0, -3, -5);
        fewest("three parts of two", 3, 1, 2, 3, -3, -2, -1);
        fewest("three equal parts of two", 3, 4, 4, 4, -4, -4, -4);
        fewest("two parts of three", 4, 5, -2, -3, 7, -6, -1);
        fewest("parts of two and four", 4, 5, -5, 7, 3, -4, -6);
        fewest("parts of two and three", 3, 5, -5, 7, -3, -4, 0);
        fewest("no parts", 5, 10, 1, -2, -3, -4, -2);
        fewest("one to five", 5, 15, -1, -2, -3, -4, -5);
        fewest("the largest first would need five", 4, 6, 5, 4, -8, -7, 0);
        fewest("the largest first misses the parts", 4, 8, 7, -5, -3, -4, -3);
    }

    private static void fewestOfMatchedAlone() {
        Document.says(22, "after which the positions of all companies would be 0");
        IntercompanyLedger x = Twins.busy();
        Check.same("one matched pair", x.fewestPayments(), 1);
        x.net();
        Check.same("none is left", x.fewestPayments(), 0);
        Twins.unchanged("fewestPayments()", IntercompanyLedger::fewestPayments);
        Twins.unchanged("directPayments()", IntercompanyLedger::directPayments);
    }

    // ---- promise 37

    private static void settlesAll() {
        Document.says(37, "Makes a netting run.");
        Document.says(TEXT, "A netting run settles all matched pairs: for each pair, the value of the receivable minus the value of the payable is added to the rounding account.");
        IntercompanyLedger x = Twins.busy();
        x.match();
        x.net();
        int[] due = {3, 3, 3, 3, 2, 2, 3, 3, 4};
        for (int item = 0; item < due.length; item++) {
            Check.same("state of " + item, x.item(item, 4), due[item]);
        }
        Check.same("5 of the first run, 10 and -2 of the second", x.total(4), 13);
        IntercompanyLedger y = Ledgers.of(SIX + "tolerance 9;");
        y.book(0, 1, 0, 1, 5);
        y.book(1, 0, 1, 1, 14);
        y.match();
        y.net();
        Check.same("below 0", y.total(4), -9);
    }

    private static void payments() {
        Document.says(37, "Returns the number of payments.");
        Document.says(TEXT, "Each company other than the center whose position is not 0 then pays to the center or is paid by it: this is one payment, for which the fee is added to the fees.");
        IntercompanyLedger x = Ledgers.of(SIX);
        owes(x, 0, 2, 5);
        owes(x, 2, 3, 5);
        owes(x, 3, 0, 5);
        Check.same("no position, no payment", x.net(), 0);
        Check.same("no fee", x.total(5), 0);
        owes(x, 1, 4, 5);
        Check.same("the center pays no fee of its own", x.net(), 1);
        Check.same("one fee", x.total(5), 9);
        for (int company = 1; company < 6; company++) {
            owes(x, 0, company, 1);
        }
        Check.same("all but the center", x.net(), 5);
        Check.same("six fees in all", x.total(5), 54);
        IntercompanyLedger y = Ledgers.of("currency 100;company 0;company 0;company 0;center 0;fee 9999;");
        owes(y, 1, 2, 1);
        y.net();
        Check.same("the highest fee, twice", y.total(5), 19998);
    }

    private static void noMatchedPair() {
        Document.says(37, "if there is no matched pair");
        Check.noState("a new object", () -> new IntercompanyLedger().net());
        IntercompanyLedger x = Ledgers.of(SIX);
        Check.noState("no item", x::net);
        x.book(0, 1, 0, 1, 5);
        x.book(1, 0, 1, 1, 6);
        Check.noState("open items", x::net);
        x.match();
        Check.noState("a disputed pair", x::net);
        x.release(0);
        x.cancel(0);
        Check.noState("a cancelled item", x::net);
        x.book(0, 1, 0, 1, 6);
        x.match();
        Check.same("a matched pair", x.net(), 1);
        Check.noState("a settled pair", x::net);
    }

    private static void refusedRunChangesNothing() {
        Document.says(TEXT, "A method that throws an exception changes nothing.");
        IntercompanyLedger x = Twins.busy();
        IntercompanyLedger y = Twins.busy();
        x.net();
        y.net();
        Check.noState("refused", x::net);
        Twins.alike("a refused net()", x, y);
    }

    static void all() {
        positions();
        positionOfFiftyPairs();
        noSuchPosition();
        settledPositionOrNone();
        settledPositionStays();
        noSuchSettledPosition();
        directPayments();
        mostDirectPayments();
        payablesOfDirectPayments();
        fewestPayments();
        fewestOfMatchedAlone();
        settlesAll();
        payments();
        noMatchedPair();
        refusedRunChangesNothing();
    }
}
