/** Promises 23 to 29, 38 and 39: stock, lots, profits, gaps, deliver, sell. */
public final class GoodsTest {

    private static final int NONE = IntercompanyLedger.NONE;

    private static final String TWO_PRODUCTS = "currency 100;company 0;company 0;company 0;"
            + "product 0 100 10 30;product 1 7 0 0;";

    private static void stocks() {
        IntercompanyLedger x = Ledgers.of(TWO_PRODUCTS);
        x.deliver(0, 0, 1, 10, 125);
        x.deliver(0, 0, 1, 5, 150);
        x.deliver(1, 1, 2, 4, 9);
        Check.same("stock", x.stock(1, 0), 15);
        Check.same("stock of another product", x.stock(1, 1), 0);
        Check.same("stock of another company", x.stock(2, 0), 0);
        Check.same("stock", x.stock(2, 1), 4);
        Check.same("stock of the maker", x.stock(0, 0), 0);
        Check.same("oldest", x.oldestPrice(1, 0), 125);
        Check.same("no lot", x.oldestPrice(1, 1), NONE);
        Check.same("no lot of the maker", x.oldestPrice(0, 0), NONE);
        x.sell(1, 0, 9, 1);
        Check.same("still the oldest", x.oldestPrice(1, 0), 125);
        x.sell(1, 0, 1, 1);
        Check.same("a lot without pieces is gone", x.oldestPrice(1, 0), 150);
        x.sell(1, 0, 5, 1);
        Check.same("all are gone", x.oldestPrice(1, 0), NONE);
        Check.same("all are gone", x.stock(1, 0), 0);
        Check.noIndex("stock 3 0", () -> x.stock(3, 0));
        Check.noIndex("stock 0 2", () -> x.stock(0, 2));
        Check.noIndex("stock -1 0", () -> x.stock(-1, 0));
        Check.noIndex("stock 0 -1", () -> x.stock(0, -1));
        Check.noIndex("oldest 3 0", () -> x.oldestPrice(3, 0));
        Check.noIndex("oldest 0 2", () -> x.oldestPrice(0, 2));
        Check.noIndex("oldest -1 0", () -> x.oldestPrice(-1, 0));
        Check.noIndex("oldest 0 -1", () -> x.oldestPrice(0, -1));
    }

    private static void profits() {
        IntercompanyLedger x = Ledgers.of(TWO_PRODUCTS);
        Check.same("no lots", x.unrealized(2), 0);
        Check.sameFloat("no lots", x.averageMargin(2), 0.0f);
        x.deliver(0, 0, 2, 10, 125);
        x.deliver(1, 1, 2, 3, 5);
        x.deliver(0, 0, 2, 4, 90);
        Check.same("unrealized", x.unrealized(2), 250 - 6 - 40);
        Check.same("of the maker", x.unrealized(0), 0);
        Check.sameFloat("margin", x.averageMargin(2), 204.0f * 100.0f / 1421.0f);
        Check.sameFloat("margin of the maker", x.averageMargin(0), 0.0f);
        x.deliver(0, 2, 1, 12, 80);
        Check.same("what is left", x.unrealized(2), -6 - 20);
        Check.same("the new lot", x.unrealized(1), -240);
        Check.sameFloat("a negative margin", x.averageMargin(1), -20.0f);
        x.sell(1, 0, 12, 100);
        Check.same("sold out", x.unrealized(1), 0);
        Check.sameFloat("sold out", x.averageMargin(1), 0.0f);
        Check.noIndex("unrealized 3", () -> x.unrealized(3));
        Check.noIndex("unrealized -1", () -> x.unrealized(-1));
        Check.noIndex("margin 3", () -> x.averageMargin(3));
        Check.noIndex("margin -1", () -> x.averageMargin(-1));
        IntercompanyLedger y = Ledgers.of("currency 1;company 0;company 0;product 0 1 0 0;");
        for (int i = 0; i < 100; i++) {
            y.deliver(0, 0, 1, 999, 99999);
        }
        Check.same("a great profit", y.unrealized(1), 9989800200L);
        Check.same("a great profit in all", y.total(7), 9989800200L);
        Check.same("great stock", y.stock(1, 0), 99900);
        Check.sameFloat("great margin", y.averageMargin(1), (float) 9989800200L * 100.0f / 99900.0f);
    }

    private static void afterSale() {
        IntercompanyLedger x = Ledgers.of(TWO_PRODUCTS);
        x.deliver(0, 0, 1, 10, 125);
        x.deliver(0, 0, 1, 5, 150);
        x.deliver(0, 0, 2, 5, 200);
        x.deliver(1, 1, 0, 8, 10);
        Check.same("after 0", x.unrealizedAfterSale(1, 0, 0), 500);
        Check.same("after 1", x.unrealizedAfterSale(1, 0, 1), 475);
        Check.same("after 12", x.unrealizedAfterSale(1, 0, 12), 150);
        Check.same("after all", x.unrealizedAfterSale(1, 0, 15), 0);
        Check.same("of the maker", x.unrealizedAfterSale(0, 0, 9999), 24);
        Check.same("another product", x.unrealizedAfterSale(0, 1, 3), 15);
        Check.same("nothing was sold", x.stock(1, 0), 15);
        Check.same("it is no change", x.undo(), 3);
        Check.noState("too many", () -> x.unrealizedAfterSale(1, 0, 16));
        Check.noState("has none", () -> x.unrealizedAfterSale(2, 1, 1));
        Check.noArgument("quantity -1", () -> x.unrealizedAfterSale(1, 0, -1));
        Check.noArgument("quantity 10000", () -> x.unrealizedAfterSale(1, 0, 10000));
        Check.noArgument("of the maker too", () -> x.unrealizedAfterSale(0, 0, 10000));
        Check.noIndex("company 3", () -> x.unrealizedAfterSale(3, 0, -1));
        Check.noIndex("company -1", () -> x.unrealizedAfterSale(-1, 0, 1));
        Check.noIndex("product 2", () -> x.unrealizedAfterSale(0, 2, -1));
        Check.noIndex("product -1", () -> x.unrealizedAfterSale(0, -1, 1));
    }

    private static void gaps() {
        IntercompanyLedger x = Ledgers.of(TWO_PRODUCTS);
        int[] prices = {110, 130, 120, 109, 131, 1, 99999};
        long[] due = {0, 0, 0, -3, 3, -327, 299607};
        for (int i = 0; i < prices.length; i++) {
            x.deliver(0, 0, 1, 3, prices[i]);
            Check.same("gap at " + prices[i], x.gap(i), due[i]);
        }
        Check.same("gaps of 0", x.gapsOf(0), 299280);
        Check.same("gaps of 1", x.gapsOf(1), -299280);
        Check.same("gaps of 2", x.gapsOf(2), 0);
        x.deliver(0, 1, 2, 10, 140);
        Check.same("gap 7", x.gap(7), 100);
        Check.same("gaps of 1", x.gapsOf(1), -299180);
        Check.same("gaps of 2", x.gapsOf(2), -100);
        x.sell(2, 0, 10, 1);
        Check.same("a gap stays when the lot is gone", x.gap(7), 100);
        x.deliver(1, 1, 0, 2, 7);
        Check.same("a band of one price", x.gap(8), 0);
        IntercompanyLedger y = Ledgers.of(TWO_PRODUCTS);
        y.deliver(0, 0, 1, 2, 100);
        Check.same("the first delivery counts", y.gapsOf(0), -20);
        Check.same("the first delivery counts", y.gapsOf(1), 20);
        y.undo();
        Check.same("undone", y.gapsOf(1), 0);
        Check.same("undone", y.unrealized(1), 0);
        Check.sameFloat("undone", y.averageMargin(1), 0.0f);
        Check.same("undone", y.total(7), 0);
        Check.same("undone", y.oldestPrice(1, 0), NONE);
        Check.noIndex("gap 9", () -> x.gap(9));
        Check.noIndex("gap -1", () -> x.gap(-1));
        Check.noIndex("gapsOf 3", () -> x.gapsOf(3));
        Check.noIndex("gapsOf -1", () -> x.gapsOf(-1));
    }

    private static void deliver() {
        IntercompanyLedger x = Ledgers.of(TWO_PRODUCTS);
        Check.same("first", x.deliver(0, 0, 1, 999, 99999), 0);
        Check.same("second", x.deliver(0, 0, 1, 1, 1), 1);
        Check.same("on", x.deliver(0, 1, 2, 999, 50), 2);
        Check.same("the lots are used in order", x.oldestPrice(1, 0), 1);
        Check.same("one new lot", x.oldestPrice(2, 0), 50);
        Check.same("stock", x.stock(2, 0), 999);
        Check.noIndex("product 2", () -> x.deliver(2, 0, 0, 0, 0));
        Check.noIndex("product -1", () -> x.deliver(-1, 0, 1, 1, 1));
        Check.noIndex("from 3", () -> x.deliver(0, 3, 1, 0, 1));
        Check.noIndex("from -1", () -> x.deliver(0, -1, 1, 1, 1));
        Check.noIndex("to 3", () -> x.deliver(0, 0, 3, 1, 0));
        Check.noIndex("to -1", () -> x.deliver(0, 0, -1, 1, 1));
        Check.noArgument("the same", () -> x.deliver(0, 2, 2, 1, 1));
        Check.noArgument("to the maker", () -> x.deliver(0, 1, 0, 1, 1));
        Check.noArgument("the maker to itself", () -> x.deliver(0, 0, 0, 1, 1));
        Check.noArgument("quantity 0", () -> x.deliver(0, 0, 1, 0, 1));
        Check.noArgument("quantity 1000", () -> x.deliver(0, 1, 2, 1000, 1));
        Check.noArgument("price 0", () -> x.deliver(0, 0, 1, 1, 0));
        Check.noArgument("price 100000", () -> x.deliver(0, 1, 2, 500, 100000));
        Check.noState("has not so many", () -> x.deliver(0, 1, 2, 2, 1));
        Check.noState("has none of this product", () -> x.deliver(1, 2, 0, 1, 1));
        Check.same("nothing changed", x.size(4), 3);
        Check.same("nothing changed", x.stock(1, 0), 1);
        while (x.size(4) < 100) {
            x.deliver(0, 0, 1, 1, 1);
        }
        Check.noState("there are 100 deliveries", () -> x.deliver(0, 0, 1, 1, 1));
        Check.noArgument("checked second", () -> x.deliver(0, 0, 1, 0, 1));
        Check.same("undo", x.undo(), 9);
        Check.same("there is room again", x.deliver(0, 0, 1, 7, 9), 99);
        Check.same("stock", x.stock(1, 0), 1 + 96 + 7);
        Check.same("a sale from 100 lots", x.sell(1, 0, 104, 100), 0);
        Check.same("stock", x.stock(1, 0), 0);
    }

    private static void sell() {
        IntercompanyLedger x = Ledgers.of(TWO_PRODUCTS);
        x.deliver(0, 0, 1, 10, 125);
        x.deliver(0, 0, 1, 5, 150);
        Check.same("sale", x.sell(1, 0, 12, 140), 480);
        Check.same("stock", x.stock(1, 0), 3);
        Check.same("oldest", x.oldestPrice(1, 0), 150);
        Check.same("sale with a loss", x.sell(1, 0, 3, 1), -297);
        Check.same("the maker sells", x.sell(0, 0, 9999, 99999), 9999L * 99899L);
        Check.same("realized", x.total(6), 480 - 297 + 9999L * 99899L);
        Check.noState("has none", () -> x.sell(1, 0, 1, 1));
        Check.noState("never had any", () -> x.sell(2, 1, 1, 1));
        Check.noArgument("quantity 0", () -> x.sell(1, 0, 0, 1));
        Check.noArgument("quantity 10000", () -> x.sell(0, 0, 10000, 1));
        Check.noArgument("price 0", () -> x.sell(0, 0, 1, 0));
        Check.noArgument("price 100000", () -> x.sell(2, 1, 1, 100000));
        Check.noIndex("company 3", () -> x.sell(3, 0, 0, 1));
        Check.noIndex("company -1", () -> x.sell(-1, 0, 1, 1));
        Check.noIndex("product 2", () -> x.sell(0, 2, 1, 0));
        Check.noIndex("product -1", () -> x.sell(0, -1, 1, 1));
        Check.same("nothing changed", x.total(6), 480 - 297 + 9999L * 99899L);
        Check.same("a sale is a change", x.undo(), 4);
        Check.same("realized", x.total(6), 183);
        x.undo();
        Check.same("pieces came back", x.stock(1, 0), 3);
    }

    public static void main(String[] args) {
        stocks();
        profits();
        afterSale();
        gaps();
        deliver();
        sell();
        Check.end();
    }
}
