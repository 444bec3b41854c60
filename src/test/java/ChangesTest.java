/** Promises 30 to 36: book, cancel, match, release, accept, setRate, setTolerance. */
public final class ChangesTest {

    private static final int NONE = IntercompanyLedger.NONE;

    private static void book() {
        IntercompanyLedger x = Ledgers.of(Ledgers.THREE);
        Check.same("first", x.book(0, 1, 0, 0, 1), 0);
        Check.same("second", x.book(2, 1, 1, 999, 1000000), 1);
        Check.noIndex("company 3", () -> x.book(3, 0, 2, 0, 1));
        Check.noIndex("company -1", () -> x.book(-1, 0, 0, 0, 1));
        Check.noIndex("partner 3", () -> x.book(0, 3, 0, -1, 1));
        Check.noIndex("partner -1", () -> x.book(0, -1, 0, 0, 0));
        Check.noIndex("both are none", () -> x.book(3, 3, 0, 0, 1));
        Check.noArgument("the same", () -> x.book(1, 1, 0, 0, 1));
        Check.noArgument("side -1", () -> x.book(0, 1, -1, 0, 1));
        Check.noArgument("side 2", () -> x.book(0, 1, 2, 0, 1));
        Check.noArgument("reference -1", () -> x.book(0, 1, 0, -1, 1));
        Check.noArgument("reference 1000", () -> x.book(0, 1, 0, 1000, 1));
        Check.noArgument("amount 0", () -> x.book(0, 1, 0, 0, 0));
        Check.noArgument("amount -1", () -> x.book(0, 1, 0, 0, Integer.MIN_VALUE));
        Check.noArgument("amount 1000001", () -> x.book(0, 1, 0, 0, 1000001));
        Check.same("nothing was booked", x.size(3), 2);
        while (x.size(3) < 100) {
            x.book(0, 1, 0, 3, 5);
        }
        Check.noState("there are 100 items", () -> x.book(0, 1, 0, 0, 1));
        Check.noArgument("checked second", () -> x.book(0, 1, 0, 0, 0));
        Check.noIndex("checked first", () -> x.book(0, 9, 0, 0, 0));
        x.cancel(50);
        Check.noState("a cancelled item keeps its number", () -> x.book(0, 1, 0, 0, 1));
        x.undo();
        Check.same("undo", x.undo(), 8);
        Check.same("room again", x.book(1, 2, 1, 4, 6), 99);
        Check.same("the new item", x.item(99, 3), 4);
        Check.same("the new item", x.value(99), 3);
    }

    private static void cancel() {
        IntercompanyLedger x = Ledgers.of(Ledgers.THREE);
        x.book(0, 1, 0, 5, 1000);
        x.book(1, 0, 1, 5, 2001);
        x.book(1, 0, 1, 6, 2001);
        x.book(0, 1, 0, 6, 1);
        x.setRate(1, 60);
        Check.same("the present value", x.cancel(1), 1200);
        Check.noState("cancelled", () -> x.cancel(1));
        Check.same("value", x.value(1), 0);
        Check.same("no candidate", x.candidates(0), 0);
        x.undo();
        Check.same("open again", x.value(1), 1200);
        x.setRate(1, 50);
        x.match();
        Check.noState("matched", () -> x.cancel(0));
        Check.noState("disputed", () -> x.cancel(2));
        x.net();
        Check.noState("settled", () -> x.cancel(0));
        Check.noIndex("cancel 4", () -> x.cancel(4));
        Check.noIndex("cancel -1", () -> x.cancel(-1));
    }

    private static void match() {
        IntercompanyLedger x = Ledgers.of(Ledgers.THREE);
        Check.same("nothing to match", x.match(), 0);
        Check.same("it is a change", x.undo(), 0);
        x.book(0, 1, 0, 5, 1000);
        x.book(1, 0, 1, 5, 1960); // 980
        x.book(2, 1, 0, 5, 1000);
        x.book(1, 2, 1, 5, 1958); // 979
        x.book(1, 2, 0, 5, 100);
        x.book(2, 0, 1, 5, 100);
        Check.same("pairs, disputed ones too", x.match(), 2);
        Check.same("the difference is the tolerance", x.item(0, 4), 1);
        Check.same("the payable too", x.item(1, 4), 1);
        Check.same("one more than the tolerance", x.item(2, 4), 2);
        Check.same("the payable too", x.item(3, 4), 2);
        Check.same("no mirror", x.item(4, 4), 0);
        Check.same("no mirror", x.item(5, 4), 0);
        Check.same("nothing more", x.match(), 0);
        Check.same("pairs stay", x.item(0, 5), 1);
        x.undo();
        Check.same("undone", x.undo(), 6);
        Check.same("open again", x.item(0, 4), 0);
        Check.same("open again", x.item(0, 5), NONE);
        Check.same("open again", x.item(3, 5), NONE);
    }

    private static void payableLarger() {
        IntercompanyLedger x = Ledgers.of(Ledgers.THREE);
        x.book(0, 2, 0, 5, 1000);
        x.book(2, 0, 1, 5, 1021);
        x.book(0, 2, 0, 6, 1000);
        x.book(2, 0, 1, 6, 1020);
        x.match();
        Check.same("the difference is absolute", x.item(0, 4), 2);
        Check.same("the difference is absolute", x.item(2, 4), 1);
    }

    private static void release() {
        IntercompanyLedger x = Ledgers.of(Ledgers.THREE);
        x.book(0, 1, 0, 5, 1000);
        x.book(1, 0, 1, 5, 2000);
        x.book(2, 1, 0, 9, 500);
        x.book(1, 2, 1, 9, 900);
        Check.noState("open", () -> x.release(0));
        x.match();
        Check.same("a matched pair", x.release(1), 0);
        Check.same("open", x.item(0, 4), 0);
        Check.same("open", x.item(1, 4), 0);
        Check.same("no pair", x.item(0, 5), NONE);
        Check.same("no pair", x.item(1, 5), NONE);
        Check.same("a disputed pair", x.release(2), 3);
        Check.same("open", x.item(2, 4), 0);
        Check.same("open", x.item(3, 4), 0);
        x.undo();
        Check.same("undone", x.item(3, 4), 2);
        Check.same("undone", x.item(3, 5), 2);
        x.match();
        x.net();
        Check.noState("settled", () -> x.release(0));
        x.release(3);
        x.cancel(2);
        Check.noState("cancelled", () -> x.release(2));
        Check.noIndex("release 4", () -> x.release(4));
        Check.noIndex("release -1", () -> x.release(-1));
    }

    private static void accept() {
        IntercompanyLedger x = Ledgers.of(Ledgers.THREE);
        x.book(0, 1, 0, 5, 1000);
        x.book(1, 0, 1, 5, 1001);
        x.book(2, 0, 0, 5, 700);
        x.book(0, 2, 1, 5, 700);
        Check.noState("open", () -> x.accept(0));
        x.match();
        Check.noState("matched", () -> x.accept(2));
        Check.same("the payable is accepted", x.accept(1), 500);
        Check.same("amount", x.amount(0), 500);
        Check.same("the amount of the accepted item stays", x.amount(1), 1001);
        Check.same("states", x.item(0, 4), 1);
        Check.same("states", x.item(1, 4), 1);
        Check.same("booked anew", x.currencyDifference(0), 0);
        Check.same("position", x.position(0), -200);
        x.undo();
        Check.same("undone", x.amount(0), 1000);
        Check.same("undone", x.item(1, 4), 2);
        x.setRate(1, 70);
        Check.same("the receivable is accepted", x.accept(0), 1428);
        Check.same("value truncates", x.value(1), 999);
        Check.same("booked anew", x.currencyDifference(1), 0);
        Check.same("of the accepted one it stays", x.currencyDifference(0), 0);
        Check.same("pair difference", x.pairDifference(0), 1);
        x.net();
        Check.noState("settled", () -> x.accept(0));
        Check.noIndex("accept 4", () -> x.accept(4));
        Check.noIndex("accept -1", () -> x.accept(-1));
    }

    private static void acceptLimits() {
        IntercompanyLedger x = Ledgers.of("currency 1;currency 9999;company 0;company 1;");
        x.book(0, 1, 0, 5, 99);      // value 0
        x.book(1, 0, 1, 5, 1000000); // value 99990000
        x.match();
        Check.noState("the new amount would be over 1000000000", () -> x.accept(1));
        Check.noState("the new amount would be 0", () -> x.accept(0));
        Check.same("still disputed", x.item(0, 4), 2);
        Check.same("no change", x.undo(), 2);
        x.undo();
        x.book(1, 0, 1, 5, 100010); // value 9999999: 999999900 of the first
        x.match();
        Check.same("just under", x.accept(1), 999999900);
        Check.same("amount", x.amount(0), 999999900);
        Check.same("value", x.value(0), 9999999);
        x.setRate(0, 9999);
        Check.same("value beyond int", x.value(0), 99989990001L);
        Check.same("difference beyond int", x.currencyDifference(0), 99989990001L - 9999999);
        IntercompanyLedger y = Ledgers.of("currency 1;currency 1000;company 0;company 1;");
        y.book(0, 1, 0, 5, 1);
        y.book(1, 0, 1, 5, 1000000); // value 10000000
        y.match();
        Check.same("just at the limit", y.accept(1), 1000000000);
        y.undo();
        y.setRate(1, 1001);
        Check.noState("over the limit", () -> y.accept(1));
        y.setRate(0, 100);
        y.setRate(1, 100);
        Check.same("an amount of 1", y.accept(0), 1);
    }

    private static void setRate() {
        IntercompanyLedger x = Ledgers.of(Ledgers.THREE);
        x.book(0, 1, 0, 5, 1000);
        x.book(1, 0, 1, 5, 2000);
        x.book(0, 1, 0, 6, 1000);
        x.book(1, 0, 1, 6, 1000);
        x.match();
        Check.same("previous", x.setRate(1, 9999), 50);
        Check.same("previous", x.setRate(1, 1), 9999);
        Check.same("rate", x.rate(1), 1);
        Check.same("the other rate", x.rate(0), 100);
        Check.same("matched stays", x.item(0, 4), 1);
        x.setRate(1, 100);
        Check.same("disputed stays", x.item(2, 4), 2);
        Check.same("even at difference 0", x.pairDifference(2), 0);
        Check.noIndex("currency 2", () -> x.setRate(2, 0));
        Check.noIndex("currency -1", () -> x.setRate(-1, 5));
        Check.noArgument("rate 0", () -> x.setRate(0, 0));
        Check.noArgument("rate 10000", () -> x.setRate(0, 10000));
        Check.noArgument("rate -5", () -> x.setRate(1, -5));
        Check.same("the same rate is a change too", x.setRate(1, 100), 100);
        Check.same("undo", x.undo(), 8);
        Check.same("undo", x.undo(), 7);
        Check.same("rate undone", x.rate(1), 1);
    }

    private static void setTolerance() {
        IntercompanyLedger x = Ledgers.of(Ledgers.THREE);
        Check.same("previous", x.setTolerance(0), 20);
        Check.same("previous", x.setTolerance(1000000), 0);
        Check.noArgument("value -1", () -> x.setTolerance(-1));
        Check.noArgument("value 1000001", () -> x.setTolerance(1000001));
        Check.same("previous", x.setTolerance(1000000), 1000000);
        x.undo();
        x.undo();
        Check.same("undo", x.undo(), 0);
        Check.same("undone", x.setTolerance(3), 20);
    }

    public static void main(String[] args) {
        book();
        cancel();
        match();
        payableLarger();
        release();
        accept();
        acceptLimits();
        setRate();
        setTolerance();
        Check.end();
    }
}
