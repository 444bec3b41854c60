/** Boundary cases of promises 23 to 29, 38 and 39 and of GOODS: a test for each sentence that names one. */
final class GoodsEdges {

    private static final int NONE = IntercompanyLedger.NONE;
    private static final int TEXT = Document.DESCRIPTION;

    /** Company 0 makes product 0, whose band is 110 to 130, and company 1 makes product 1, whose band is 7 alone. */
    private static final String GOODS = "currency 100;company 0;company 0;company 0;product 0 100 10 30;product 1 7 0 0;";

    private GoodsEdges() {
    }

    /** Company 1 has lots of 10 at 125 and of 5 at 150 of product 0; company 2 has none. */
    private static IntercompanyLedger twoLots() {
        IntercompanyLedger x = Ledgers.of(GOODS);
        x.deliver(0, 0, 1, 10, 125);
        x.deliver(0, 0, 1, 5, 150);
        return x;
    }

    private static IntercompanyLedger full() {
        IntercompanyLedger x = Ledgers.of("currency 1;company 0;company 0;product 0 1 0 0;");
        for (int delivery = 0; delivery < 100; delivery++) {
            x.deliver(0, 0, 1, 999, 99999);
        }
        return x;
    }

    // ---- promise 23

    private static void stocks() {
        Document.says(23, "Returns the number of pieces in the lots of the company (0 for the maker).");
        IntercompanyLedger x = twoLots();
        Check.same("two lots", x.stock(1, 0), 15);
        Check.same("the maker", x.stock(0, 0), 0);
        Check.same("no lot", x.stock(2, 0), 0);
        Check.same("no lot of the other product", x.stock(2, 1), 0);
        Check.same("the maker of the other product", x.stock(1, 1), 0);
        x.sell(0, 0, 9999, 1);
        Check.same("the maker after a sale", x.stock(0, 0), 0);
        Check.same("what others have stays", x.stock(1, 0), 15);
        x.sell(1, 0, 15, 1);
        Check.same("sold out", x.stock(1, 0), 0);
        Check.same("as many as there can be", full().stock(1, 0), 99900);
    }

    private static void noSuchStock() {
        Document.says(23, "if there is no such company or product");
        IntercompanyLedger x = twoLots();
        Check.noSuch("stock", 3, company -> x.stock(company, 0));
        Check.noSuch("stock of a product", 2, product -> x.stock(0, product));
        Check.noSuch("stock without products", 0, product -> Ledgers.of("currency 1;company 0;").stock(0, product));
        Check.noSuch("stock without companies", 0, company -> new IntercompanyLedger().stock(company, 0));
    }

    // ---- promise 24

    private static void priceOrNone() {
        Document.says(24, "Returns the price of the oldest lot of the product; NONE if the company has no lot of it.");
        IntercompanyLedger x = Ledgers.of(GOODS);
        Check.same("no lot", x.oldestPrice(1, 0), NONE);
        Check.same("the maker", x.oldestPrice(0, 0), NONE);
        x.deliver(0, 0, 1, 1, 1);
        x.deliver(0, 0, 1, 1, 99999);
        Check.same("the lowest price", x.oldestPrice(1, 0), 1);
        Check.same("another company", x.oldestPrice(2, 0), NONE);
        Check.same("another product", x.oldestPrice(1, 1), NONE);
        x.sell(1, 0, 1, 1);
        Check.same("the highest price", x.oldestPrice(1, 0), 99999);
        x.sell(1, 0, 1, 1);
        Check.same("no lot any more", x.oldestPrice(1, 0), NONE);
    }

    private static void orderOfLots() {
        Document.says(TEXT, "Pieces are taken from the lots of a company in the order in which they came, and a lot without pieces is gone.");
        IntercompanyLedger x = twoLots();
        Check.same("no lot", x.oldestPrice(2, 0), NONE);
        Check.same("no lot of the other product", x.oldestPrice(1, 1), NONE);
        Check.same("the maker", x.oldestPrice(0, 0), NONE);
        Check.same("the oldest", x.oldestPrice(1, 0), 125);
        x.sell(1, 0, 9, 1);
        Check.same("one piece is left", x.oldestPrice(1, 0), 125);
        x.sell(1, 0, 1, 1);
        Check.same("none is left", x.oldestPrice(1, 0), 150);
        x.deliver(0, 0, 1, 1, 99999);
        Check.same("a new lot is the last", x.oldestPrice(1, 0), 150);
        x.sell(1, 0, 5, 1);
        Check.same("the highest price", x.oldestPrice(1, 0), 99999);
        x.sell(1, 0, 1, 1);
        Check.same("no lot is left", x.oldestPrice(1, 0), NONE);
        x.deliver(0, 0, 1, 1, 1);
        Check.same("the lowest price", x.oldestPrice(1, 0), 1);
    }

    private static void noSuchOldestPrice() {
        Document.says(24, "if there is no such company or product");
        IntercompanyLedger x = twoLots();
        Check.noSuch("oldestPrice", 3, company -> x.oldestPrice(company, 0));
        Check.noSuch("oldestPrice of a product", 2, product -> x.oldestPrice(0, product));
        Check.noSuch("oldestPrice without products", 0, product -> Ledgers.of("currency 1;company 0;").oldestPrice(0, product));
    }

    // ---- promise 25

    private static void unrealized() {
        Document.says(25, "Returns the unrealized profit of all lots of the company.");
        Document.says(TEXT, "The unrealized profit of a lot is its quantity times the difference price minus cost.");
        IntercompanyLedger x = twoLots();
        Check.same("no lot", x.unrealized(2), 0);
        Check.same("the maker", x.unrealized(0), 0);
        Check.same("two lots", x.unrealized(1), 500);
        x.deliver(0, 0, 2, 3, 100);
        Check.same("the price is the cost", x.unrealized(2), 0);
        x.deliver(1, 1, 2, 999, 1);
        Check.same("below the cost", x.unrealized(2), -5994);
        Check.same("beyond int", full().unrealized(1), 100L * 999 * 99998);
        Check.same("beyond int in all", full().total(7), 100L * 999 * 99998);
    }

    private static void noSuchUnrealized() {
        Document.says(25, "if there is no such company");
        Check.noSuch("unrealized", 3, twoLots()::unrealized);
        Check.noSuch("unrealized of none", 0, new IntercompanyLedger()::unrealized);
    }

    // ---- promise 26

    private static void afterSale() {
        Document.says(26, "Returns the unrealized profit of all lots of a company that would remain after a sale.");
        Document.says(26, "Returns the profit.");
        IntercompanyLedger x = twoLots();
        x.deliver(1, 1, 0, 4, 9);
        x.deliver(1, 1, 2, 4, 9);
        Check.same("nothing is sold", x.unrealizedAfterSale(1, 0, 0), 500);
        Check.same("the first lot", x.unrealizedAfterSale(1, 0, 10), 250);
        Check.same("one piece of the second", x.unrealizedAfterSale(1, 0, 11), 200);
        Check.same("all but one", x.unrealizedAfterSale(1, 0, 14), 50);
        Check.same("all", x.unrealizedAfterSale(1, 0, 15), 0);
        Check.same("the most of a maker", x.unrealizedAfterSale(0, 0, 9999), 8);
        Check.same("nothing of a product it has not", x.unrealizedAfterSale(2, 0, 0), 8);
        Check.same("lots of the product that others have", x.unrealizedAfterSale(2, 1, 4), 0);
        Check.same("the most of lots", full().unrealizedAfterSale(1, 0, 9999), (99900L - 9999) * 99998);
        Twins.unchanged("unrealizedAfterSale(1, 0, 4)", y -> y.unrealizedAfterSale(1, 0, 4));
    }

    private static void afterLeastAndMost() {
        Document.says(26, "`quantity`: 0 to 9999");
        IntercompanyLedger x = full();
        Check.same("nothing", x.unrealizedAfterSale(1, 0, 0), 99900L * 99998);
        Check.same("the most of lots", x.unrealizedAfterSale(1, 0, 9999), (99900L - 9999) * 99998);
        Check.same("nothing of the maker", x.unrealizedAfterSale(0, 0, 0), 0);
        Check.same("the most of the maker", x.unrealizedAfterSale(0, 0, 9999), 0);
        Check.same("nothing of nothing", twoLots().unrealizedAfterSale(2, 0, 0), 0);
    }

    private static void afterSaleNoSuch() {
        Document.says(26, "if there is no such company or product (checked first)");
        IntercompanyLedger x = twoLots();
        for (int quantity : new int[] {0, -1, 10000}) {
            Check.noSuch("afterSale", 3, company -> x.unrealizedAfterSale(company, 0, quantity));
            Check.noSuch("afterSale of a product", 2, product -> x.unrealizedAfterSale(1, product, quantity));
        }
    }

    private static void afterSaleOutOfRange() {
        Document.says(26, "if quantity is out of range (checked second)");
        IntercompanyLedger x = twoLots();
        Check.outOfRange("afterSale", 0, 9999, quantity -> x.unrealizedAfterSale(1, 0, quantity));
        Check.outOfRange("afterSale of the maker", 0, 9999, quantity -> x.unrealizedAfterSale(0, 0, quantity));
        Check.outOfRange("afterSale of one without pieces", 0, 9999, quantity -> x.unrealizedAfterSale(2, 0, quantity));
    }

    private static void afterSaleOfTooMany() {
        Document.says(26, "if the company is not the maker and has not so many pieces");
        IntercompanyLedger x = twoLots();
        Check.noState("one too many", () -> x.unrealizedAfterSale(1, 0, 16));
        Check.noState("far too many", () -> x.unrealizedAfterSale(1, 0, 9999));
        Check.noState("it has none", () -> x.unrealizedAfterSale(2, 0, 1));
        Check.noState("the maker of another product", () -> x.unrealizedAfterSale(0, 1, 1));
        Twins.unchanged("a refused unrealizedAfterSale", y -> y.unrealizedAfterSale(1, 0, 5));
    }

    // ---- promise 27

    private static void averageMargins() {
        Document.says(27, "where both sums and 100 are converted to float; 0.0f if it has no lots");
        IntercompanyLedger x = twoLots();
        Check.sameFloat("no lots", x.averageMargin(2), 0.0f);
        Check.sameFloat("the maker", x.averageMargin(0), 0.0f);
        Check.sameFloat("two lots", x.averageMargin(1), 500.0f * 100.0f / 1500.0f);
        x.sell(1, 0, 15, 1);
        Check.sameFloat("all lots are gone", x.averageMargin(1), 0.0f);
        x.deliver(0, 0, 2, 3, 100);
        Check.sameFloat("no margin", x.averageMargin(2), 0.0f);
        x.deliver(1, 1, 2, 3, 5);
        Check.sameFloat("a negative margin", x.averageMargin(2), -6.0f * 100.0f / 321.0f);
        Check.sameFloat("great sums", full().averageMargin(1), (float) (100L * 999 * 99998) * 100.0f / 99900.0f);
    }

    private static void marginOfRoundedSums() {
        Document.says(27, "Returns the unrealized profit of all its lots times 100 divided by the sum of quantity times cost over all its lots");
        IntercompanyLedger x = Ledgers.of("currency 1;company 0;company 0;product 0 9998 0 0;");
        for (int delivery = 0; delivery < 7; delivery++) {
            x.deliver(0, 0, 1, 997, 99991);
        }
        long profit = 7L * 997 * (99991 - 9998);
        long cost = 7L * 997 * 9998;
        Check.sameFloat("sums that a float rounds", x.averageMargin(1), (float) profit * 100.0f / (float) cost);
    }

    private static void noSuchMargin() {
        Document.says(27, "if there is no such company");
        Check.noSuch("averageMargin", 3, twoLots()::averageMargin);
        Check.noSuch("averageMargin of none", 0, new IntercompanyLedger()::averageMargin);
    }

    // ---- promise 28

    private static void gaps() {
        Document.says(28, "Returns its gap.");
        Document.says(TEXT, "The gap of a delivery is 0 if its price lies within the band (or on a bound); otherwise it is its quantity times the difference of its price minus the nearer bound.");
        IntercompanyLedger x = Ledgers.of(GOODS);
        int[] prices = {1, 109, 110, 111, 129, 130, 131, 99999};
        long[] due = {-109 * 999, -999, 0, 0, 0, 0, 999, 99869L * 999};
        for (int delivery = 0; delivery < prices.length; delivery++) {
            x.deliver(0, 0, 1, 999, prices[delivery]);
            Check.same("gap at " + prices[delivery], x.gap(delivery), due[delivery]);
        }
        x.deliver(1, 1, 0, 2, 6);
        x.deliver(1, 1, 0, 2, 7);
        x.deliver(1, 1, 0, 2, 8);
        Check.same("below a band of one price", x.gap(8), -2);
        Check.same("on it", x.gap(9), 0);
        Check.same("above it", x.gap(10), 2);
        x.sell(0, 1, 6, 1);
        Check.same("the gap stays when the lot is gone", x.gap(8), -2);
        Check.same("the last of 100", full().gap(99), 999L * 99998);
    }

    private static void noSuchDelivery() {
        Document.says(28, "if there is no such delivery");
        IntercompanyLedger x = twoLots();
        Check.noSuch("gap", 2, x::gap);
        Check.noSuch("gap of none", 0, Ledgers.of(GOODS)::gap);
        Check.noSuch("gap of 100", 100, full()::gap);
        x.undo();
        Check.noIndex("a delivery that was undone", () -> x.gap(1));
    }

    // ---- promise 29

    private static void gapsOf() {
        Document.says(29, "Returns the sum of the gaps of all deliveries that the company has made, minus the sum of those that it has received.");
        IntercompanyLedger x = twoLots();
        Check.same("none", x.gapsOf(2), 0);
        Check.same("made", x.gapsOf(0), 100);
        Check.same("received", x.gapsOf(1), -100);
        x.deliver(0, 1, 2, 3, 100);
        Check.same("received and made", x.gapsOf(1), -130);
        Check.same("received below the band", x.gapsOf(2), 30);
        Check.same("beyond int, made", full().gapsOf(0), 100L * 999 * 99998);
        Check.same("beyond int, received", full().gapsOf(1), -100L * 999 * 99998);
    }

    private static void noSuchGapsOf() {
        Document.says(29, "if there is no such company");
        Check.noSuch("gapsOf", 3, twoLots()::gapsOf);
        Check.noSuch("gapsOf of none", 0, new IntercompanyLedger()::gapsOf);
    }

    // ---- promise 38

    private static void leastAndMostQuantity() {
        Document.says(38, "`quantity`: 1 to 999");
        IntercompanyLedger x = Ledgers.of(GOODS);
        x.deliver(0, 0, 1, 1, 100);
        Check.same("the least", x.stock(1, 0), 1);
        x.deliver(0, 0, 1, 999, 100);
        Check.same("the most", x.stock(1, 0), 1000);
        x.deliver(0, 1, 2, 999, 100);
        Check.same("the most from lots", x.stock(2, 0), 999);
        x.deliver(0, 1, 2, 1, 100);
        Check.same("the least from lots", x.stock(2, 0), 1000);
    }

    private static void leastAndMostPrice() {
        Document.says(38, "`price`: 1 to 99999");
        IntercompanyLedger x = Ledgers.of(GOODS);
        x.deliver(0, 0, 1, 1, 1);
        x.deliver(0, 0, 2, 1, 99999);
        Check.same("the least", x.oldestPrice(1, 0), 1);
        Check.same("the most", x.oldestPrice(2, 0), 99999);
    }

    private static void firstToLastDelivery() {
        Document.says(38, "Returns the number of the delivery.");
        Document.says(TEXT, "Deliveries are numbered from 0.");
        IntercompanyLedger x = Ledgers.of(GOODS);
        for (int delivery = 0; delivery < 100; delivery++) {
            Check.same("delivery", x.deliver(delivery % 2, delivery % 2, 2, 1, 1), delivery);
        }
    }

    private static void leastAndMostDelivered() {
        Document.says(38, "A company delivers pieces to another one.");
        Document.says(TEXT, "The maker of a product is the company in its statement.");
        Document.says(TEXT, "It has any number of pieces; other companies have them in lots, each with a quantity and a price for a piece.");
        IntercompanyLedger x = Ledgers.of(GOODS);
        Check.same("the least", x.deliver(0, 0, 1, 1, 1), 0);
        Check.same("the most", x.deliver(0, 0, 1, 999, 99999), 1);
        Check.same("the last of the numbers", x.deliver(1, 1, 2, 999, 1), 2);
        Check.same("stock", x.stock(1, 0), 1000);
        Check.same("stock", x.stock(2, 1), 999);
    }

    private static void deliveredFromLots() {
        Document.says(TEXT, "they are taken from its lots if it is not the maker, and the other one gets one new lot with the quantity and the price of the delivery");
        IntercompanyLedger x = twoLots();
        x.deliver(0, 1, 2, 15, 200);
        Check.same("all of its pieces", x.stock(1, 0), 0);
        Check.same("one new lot", x.stock(2, 0), 15);
        Check.same("with the price of the delivery", x.oldestPrice(2, 0), 200);
        x.deliver(0, 2, 1, 15, 90);
        Check.same("back again", x.oldestPrice(1, 0), 90);
        Check.same("back again", x.unrealized(1), -150);
        Check.same("none is left", x.oldestPrice(2, 0), NONE);
        IntercompanyLedger y = twoLots();
        y.deliver(0, 1, 2, 11, 200);
        Check.same("the first lot and a piece of the second", y.unrealized(1), 200);
        Check.same("the maker has any number", y.deliver(0, 0, 2, 999, 1), 3);
        Check.same("the lots of others stay", y.stock(1, 0), 4);
    }

    private static void deliverNoSuch() {
        Document.says(38, "if there is no such product or company (checked first)");
        IntercompanyLedger x = twoLots();
        for (int wrong : new int[] {0, 1000}) {
            Check.noSuch("deliver of a product", 2, product -> x.deliver(product, 0, 1, wrong, wrong));
            Check.noSuch("deliver from", 3, from -> x.deliver(0, from, 1, wrong, wrong));
            Check.noSuch("deliver to", 3, to -> x.deliver(0, 0, to, wrong, wrong));
            Check.noSuch("deliver from and to", 3, both -> x.deliver(0, both, both, wrong, wrong));
        }
        Check.noSuch("deliver of a good one", 2, product -> x.deliver(product, 0, 1, 1, 1));
        Check.noSuch("deliver in full rows", 2, to -> full().deliver(0, 0, to, 1, 1));
    }

    private static void deliverToWrongCompany() {
        Document.says(38, "if both companies are the same, to is the maker, or quantity or price is out of range (checked second)");
        IntercompanyLedger x = twoLots();
        Check.noArgument("the same", () -> x.deliver(0, 1, 1, 1, 1));
        Check.noArgument("the same without pieces", () -> x.deliver(0, 2, 2, 1, 1));
        Check.noArgument("the maker to itself", () -> x.deliver(0, 0, 0, 1, 1));
        Check.noArgument("to the maker", () -> x.deliver(0, 1, 0, 1, 1));
        Check.noArgument("to the maker without pieces", () -> x.deliver(0, 2, 0, 1, 1));
        Check.noArgument("to the maker of the other product", () -> x.deliver(1, 2, 1, 1, 1));
    }

    private static void deliverOutOfRange() {
        Document.says(38, "or quantity or price is out of range (checked second)");
        IntercompanyLedger x = twoLots();
        IntercompanyLedger full = full();
        Check.outOfRange("deliver", 1, 999, quantity -> x.deliver(0, 0, 1, quantity, 1));
        Check.outOfRange("deliver at a price", 1, 99999, price -> x.deliver(0, 0, 1, 1, price));
        Check.outOfRange("deliver without pieces", 1, 999, quantity -> x.deliver(0, 2, 1, quantity, 1));
        Check.outOfRange("deliver at a price without pieces", 1, 99999, price -> x.deliver(0, 2, 1, 1, price));
        Check.outOfRange("deliver in full rows", 1, 999, quantity -> full.deliver(0, 0, 1, quantity, 1));
        Check.outOfRange("deliver at a price in full rows", 1, 99999, price -> full.deliver(0, 0, 1, 1, price));
    }

    private static void deliverTooMany() {
        Document.says(38, "if from is not the maker and has not so many pieces, or there are 100 deliveries");
        IntercompanyLedger x = twoLots();
        Check.noState("one too many", () -> x.deliver(0, 1, 2, 16, 1));
        Check.noState("it has none", () -> x.deliver(0, 2, 1, 1, 1));
        Check.noState("the maker of another product", () -> x.deliver(1, 0, 2, 1, 1));
        Check.same("all of them", x.deliver(0, 1, 2, 15, 1), 2);
        Check.noState("it has none any more", () -> x.deliver(0, 1, 2, 1, 1));
    }

    private static void hundredDeliveries() {
        Document.says(38, "or there are 100 deliveries");
        IntercompanyLedger x = full();
        Check.same("a hundred", x.size(4), 100);
        Check.noState("one more", () -> x.deliver(0, 0, 1, 1, 1));
        Check.same("nothing came", x.stock(1, 0), 99900);
        x.sell(1, 0, 9999, 1);
        Check.noState("lots that are gone leave no room", () -> x.deliver(0, 0, 1, 1, 1));
        x.undo();
        x.undo();
        Check.same("an undone delivery does", x.deliver(0, 0, 1, 1, 1), 99);
        Check.noState("one more", () -> x.deliver(0, 0, 1, 1, 1));
    }

    private static void refusedDeliveryChangesNothing() {
        Document.says(TEXT, "A method that throws an exception changes nothing.");
        Twins.unchanged("deliver without pieces", x -> x.deliver(0, 1, 2, 5, 1));
        Twins.unchanged("deliver to the maker", x -> x.deliver(0, 1, 0, 1, 1));
        Twins.unchanged("deliver at no price", x -> x.deliver(0, 1, 2, 1, 0));
        Twins.unchanged("deliver to nobody", x -> x.deliver(0, 1, 3, 1, 1));
        Twins.unchanged("sell without pieces", x -> x.sell(1, 0, 5, 1));
        Twins.unchanged("sell at no price", x -> x.sell(1, 0, 1, 0));
        Twins.unchanged("sell of no product", x -> x.sell(1, 2, 1, 1));
    }

    // ---- promise 39

    private static void leastAndMostSold() {
        Document.says(39, "A company sells pieces outside of the group.");
        Document.says(39, "Returns what the group realizes by it.");
        Document.says(TEXT, "When a company sells pieces outside of the group, the group realizes the quantity times the difference of the price of the sale minus the cost.");
        IntercompanyLedger x = twoLots();
        Check.same("the least", x.sell(0, 0, 1, 1), -99);
        Check.same("the most", x.sell(0, 0, 9999, 99999), 9999L * 99899);
        Check.same("at the cost", x.sell(1, 0, 1, 100), 0);
        Check.same("the price of the lot does not count", x.sell(1, 0, 14, 101), 14);
        Check.same("in all", x.total(6), -99 + 9999L * 99899 + 14);
        Check.same("sold out", x.stock(1, 0), 0);
        IntercompanyLedger y = full();
        Check.same("the most from lots", y.sell(1, 0, 9999, 99999), 9999L * 99998);
        Check.same("what is left", y.stock(1, 0), 99900 - 9999);
        y.sell(1, 0, 9999, 99999);
        y.sell(1, 0, 9999, 99999);
        Check.same("beyond int", y.total(6), 3 * 9999L * 99998);
    }

    private static void leastAndMostSaleQuantity() {
        Document.says(39, "`quantity`: 1 to 9999");
        IntercompanyLedger x = full();
        Check.same("the least of the maker", x.sell(0, 0, 1, 2), 1);
        Check.same("the most of the maker", x.sell(0, 0, 9999, 2), 9999);
        Check.same("the least of lots", x.sell(1, 0, 1, 2), 1);
        Check.same("the most of lots", x.sell(1, 0, 9999, 2), 9999);
        Check.same("what is left", x.stock(1, 0), 99900 - 10000);
    }

    private static void leastAndMostSalePrice() {
        Document.says(39, "`price`: 1 to 99999");
        IntercompanyLedger x = twoLots();
        Check.same("the least", x.sell(1, 0, 1, 1), -99);
        Check.same("the most", x.sell(1, 0, 1, 99999), 99899);
    }

    private static void sellNoSuch() {
        Document.says(39, "if there is no such company or product (checked first)");
        IntercompanyLedger x = twoLots();
        for (int wrong : new int[] {1, 0, 100000}) {
            Check.noSuch("sell", 3, company -> x.sell(company, 0, wrong, wrong));
            Check.noSuch("sell of a product", 2, product -> x.sell(0, product, wrong, wrong));
        }
    }

    private static void sellOutOfRange() {
        Document.says(39, "if quantity or price is out of range (checked second)");
        IntercompanyLedger x = twoLots();
        for (int company = 0; company < 3; company++) {
            int seller = company;
            Check.outOfRange("sell", 1, 9999, quantity -> x.sell(seller, 0, quantity, 1));
            Check.outOfRange("sell at a price", 1, 99999, price -> x.sell(seller, 0, 1, price));
        }
    }

    private static void sellTooMany() {
        Document.says(39, "if the company is not the maker and has not so many pieces");
        IntercompanyLedger x = twoLots();
        Check.noState("one too many", () -> x.sell(1, 0, 16, 1));
        Check.noState("it has none", () -> x.sell(2, 0, 1, 1));
        Check.noState("the maker of another product", () -> x.sell(0, 1, 1, 1));
        Check.same("all of them", x.sell(1, 0, 15, 100), 0);
        Check.noState("it has none any more", () -> x.sell(1, 0, 1, 1));
        Check.same("the maker always has", x.sell(0, 0, 9999, 100), 0);
    }

    static void all() {
        stocks();
        noSuchStock();
        priceOrNone();
        orderOfLots();
        noSuchOldestPrice();
        unrealized();
        noSuchUnrealized();
        afterSale();
        afterLeastAndMost();
        afterSaleNoSuch();
        afterSaleOutOfRange();
        afterSaleOfTooMany();
        averageMargins();
        marginOfRoundedSums();
        noSuchMargin();
        gaps();
        noSuchDelivery();
        gapsOf();
        noSuchGapsOf();
        changes();
    }

    private static void changes() {
        leastAndMostQuantity();
        leastAndMostPrice();
        firstToLastDelivery();
        leastAndMostDelivered();
        deliveredFromLots();
        deliverNoSuch();
        deliverToWrongCompany();
        deliverOutOfRange();
        deliverTooMany();
        hundredDeliveries();
        refusedDeliveryChangesNothing();
        leastAndMostSold();
        leastAndMostSaleQuantity();
        leastAndMostSalePrice();
        sellNoSuch();
        sellOutOfRange();
        sellTooMany();
    }
}
