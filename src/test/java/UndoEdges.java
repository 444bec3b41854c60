import java.util.function.Consumer;

/** Boundary cases of promises 40 to 42 and of CHANGES: a test for each sentence that names one. */
final class UndoEdges {

    private static final int NONE = IntercompanyLedger.NONE;
    private static final int TEXT = Document.DESCRIPTION;

    private UndoEdges() {
    }

    private static IntercompanyLedger changed(int times) {
        IntercompanyLedger x = Ledgers.of(Ledgers.THREE);
        for (int rate = 1; rate <= times; rate++) {
            x.setRate(0, rate);
        }
        return x;
    }

    // ---- promise 40

    private static void nothingToUndo() {
        Document.says(40, "Returns the number of changes that can still be undone; NONE if there was none to undo.");
        Check.same("a new object", new IntercompanyLedger().undo(), NONE);
        IntercompanyLedger x = changed(0);
        Check.same("a new group", x.undo(), NONE);
        Check.same("nothing was undone", x.rate(0), 100);
        x.setRate(0, 7);
        Check.same("the only change", x.undo(), 0);
        Check.same("undone", x.rate(0), 100);
        Check.same("none is left", x.undo(), NONE);
        Check.same("none is left", x.undo(), NONE);
        Check.same("nothing more was undone", x.rate(0), 100);
    }

    private static void tenAtMost() {
        Document.says(TEXT, "The latest 10 changes can be undone, the latest first.");
        for (int times : new int[] {1, 9, 10, 11, 19, 20, 21, 35}) {
            IntercompanyLedger x = changed(times);
            int most = Math.min(times, 10);
            for (int undone = 1; undone <= most; undone++) {
                Check.same("undo " + undone + " of " + times, x.undo(), most - undone);
                Check.same("rate", x.rate(0), times == undone ? 100 : times - undone);
            }
            Check.same("no more of " + times, x.undo(), NONE);
            Check.same("rate", x.rate(0), times <= 10 ? 100 : times - 10);
        }
    }

    private static void latestNotUndone() {
        Document.says(40, "Undoes the latest change that has not been undone.");
        IntercompanyLedger x = changed(10);
        Check.same("the tenth", x.undo(), 9);
        Check.same("the ninth", x.undo(), 8);
        x.setRate(1, 77);
        Check.same("a new one behind the eighth", x.undo(), 8);
        Check.same("it was undone", x.rate(1), 50);
        Check.same("the eighth still stands", x.rate(0), 8);
        Check.same("the eighth", x.undo(), 7);
        Check.same("it was undone", x.rate(0), 7);
        for (int i = 0; i < 4; i++) {
            x.setTolerance(i);
        }
        Check.same("full again after eleven", x.undo(), 9);
        x.setTolerance(9);
        x.setTolerance(9);
        Check.same("full again", x.undo(), 9);
    }

    private static void everyChange() {
        Document.says(TEXT, "The methods from book to sell change the data if they succeed.");
        change("book", x -> x.book(0, 1, 0, 5, 1));
        change("cancel", x -> x.cancel(6));
        change("match", IntercompanyLedger::match);
        change("release", x -> x.release(2));
        change("release of a dispute", x -> x.release(5));
        change("accept", x -> x.accept(4));
        change("setRate", x -> x.setRate(0, 101));
        change("net", IntercompanyLedger::net);
        change("deliver from lots", x -> x.deliver(0, 1, 2, 4, 99));
        change("deliver from the maker", x -> x.deliver(1, 1, 2, 4, 99));
        change("sell from lots", x -> x.sell(2, 0, 3, 99));
        change("sell from the maker", x -> x.sell(0, 0, 3, 99));
        IntercompanyLedger x = Twins.busy();
        x.setTolerance(1);
        Check.same("setTolerance is a change", x.undo(), 9);
        Check.same("it is undone", x.setTolerance(2), 20);
    }

    /** A change is seen, and is gone when it is undone. */
    private static void change(String call, Consumer<IntercompanyLedger> run) {
        IntercompanyLedger x = Twins.busy();
        String before = Picture.of(x);
        run.accept(x);
        Check.same(call + " is seen", Picture.of(x).equals(before), false);
        Check.same(call + " is undone", x.undo(), 9);
        Check.sameText(call + " is gone", Picture.of(x), before);
        Check.same(call + " keeps the tolerance", x.setTolerance(0), 20);
    }

    private static void questionsAreNoChanges() {
        Document.says(TEXT, "The methods from book to sell change the data if they succeed.");
        Twins.unchanged("every question", Picture::of);
        Twins.unchanged("a question about a product", x -> x.product(0, 3));
        Twins.unchanged("saving in no slot", x -> x.saveSnapshot(2));
    }

    private static void refusedCalls() {
        Document.says(TEXT, "A method that throws an exception changes nothing.");
        Twins.unchanged("size(5)", x -> x.size(5));
        Twins.unchanged("rate(2)", x -> x.rate(2));
        Twins.unchanged("currencyOf(3)", x -> x.currencyOf(3));
        Twins.unchanged("product(2, 0)", x -> x.product(2, 0));
        Twins.unchanged("item(0, 6)", x -> x.item(0, 6));
        Twins.unchanged("amount(9)", x -> x.amount(9));
        Twins.unchanged("value(9)", x -> x.value(9));
        Twins.unchanged("currencyDifference(9)", x -> x.currencyDifference(9));
        Twins.unchanged("pairDifference(6)", x -> x.pairDifference(6));
        Twins.unchanged("candidates(9)", x -> x.candidates(9));
        Twins.unchanged("balance(0, 3)", x -> x.balance(0, 3));
        Twins.unchanged("total(8)", x -> x.total(8));
        Twins.unchanged("position(3)", x -> x.position(3));
        Twins.unchanged("settledPosition(3)", x -> x.settledPosition(3));
        Twins.unchanged("stock(3, 0)", x -> x.stock(3, 0));
        Twins.unchanged("oldestPrice(0, 2)", x -> x.oldestPrice(0, 2));
        Twins.unchanged("unrealized(3)", x -> x.unrealized(3));
        Twins.unchanged("averageMargin(3)", x -> x.averageMargin(3));
        Twins.unchanged("gap(2)", x -> x.gap(2));
        Twins.unchanged("gapsOf(3)", x -> x.gapsOf(3));
    }

    private static void parseIsNoChange() {
        Document.says(TEXT, "A successful parse removes all items, lots and deliveries, sets all sums to 0, clears the undo history and empties both slots.");
        IntercompanyLedger x = Twins.busy();
        x.saveSnapshot(1);
        x.net();
        x.parse(0);
        Check.same("the history is clear", x.undo(), NONE);
        Check.same("slot 0 is empty", x.restoreSnapshot(0), false);
        Check.same("slot 1 is empty", x.restoreSnapshot(1), false);
        for (int what = 0; what <= 7; what++) {
            Check.same("sum " + what, x.total(what), 0);
        }
        for (int what = 0; what <= 4; what++) {
            Check.same("size " + what, x.size(what), 0);
        }
        Check.same("the tolerance is gone", x.setTolerance(1), 0);
    }

    private static void parseOfTheSameText() {
        Document.says(TEXT, "A successful parse removes all items, lots and deliveries, sets all sums to 0");
        String text = Ledgers.THREE + "product 1 50 0 0;";
        IntercompanyLedger x = Twins.busy();
        x.setRate(1, 51);
        x.setTolerance(3);
        x.parse(20);
        Check.same("the same group", Ledgers.parse(x, text), 3);
        Check.sameText("as after the first parse", Picture.of(x), Picture.of(Ledgers.of(text)));
        Check.same("rate", x.rate(1), 50);
        Check.same("no lot", x.oldestPrice(1, 0), NONE);
        Check.same("tolerance", x.setTolerance(0), 20);
        for (int company = 0; company < 3; company++) {
            Check.same("no netting run", x.settledPosition(company), 0);
        }
        Check.same("the first item", x.book(0, 1, 0, 1, 1), 0);
        Check.same("it is open", x.item(0, 4), 0);
        Check.same("it is not paired", x.item(0, 5), NONE);
        Check.same("the first delivery", x.deliver(0, 0, 2, 1, 120), 0);
        Check.same("its lot alone", x.stock(2, 0), 1);
    }

    // ---- promise 41

    private static void twoSlots() {
        Document.says(41, "`slot`: 0 or 1");
        Document.says(TEXT, "There are two snapshot slots, 0 and 1");
        IntercompanyLedger x = changed(1);
        x.saveSnapshot(0);
        x.setRate(0, 2);
        x.saveSnapshot(1);
        x.setRate(0, 3);
        Check.same("a third", x.saveSnapshot(2), false);
        x.restoreSnapshot(0);
        Check.same("slot 0", x.rate(0), 1);
        x.restoreSnapshot(1);
        Check.same("slot 1", x.rate(0), 2);
        Check.same("no third", x.restoreSnapshot(2), false);
        Check.same("nothing changed", x.rate(0), 2);
    }

    private static void savedOrNot() {
        Document.says(41, "Returns true; false if there is no such slot.");
        IntercompanyLedger x = changed(1);
        Check.same("slot 0", x.saveSnapshot(0), true);
        Check.same("slot 1", x.saveSnapshot(1), true);
        for (int slot : new int[] {-1, 2, 3, Integer.MAX_VALUE, Integer.MIN_VALUE}) {
            Check.same("slot " + slot, x.saveSnapshot(slot), false);
        }
        Check.same("a new object has slots too", new IntercompanyLedger().saveSnapshot(1), true);
        Check.same("saving is no change", x.undo(), 0);
        Check.same("saving is no change", x.undo(), NONE);
    }

    private static void inPlaceOfTheFormer() {
        Document.says(41, "Saves a snapshot, in place of what the slot held before.");
        IntercompanyLedger x = changed(0);
        for (int rate = 1; rate <= 3; rate++) {
            x.setRate(0, rate);
            Check.same("slot 0", x.saveSnapshot(0), true);
        }
        x.setRate(0, 4);
        x.saveSnapshot(1);
        x.setRate(0, 5);
        x.restoreSnapshot(0);
        Check.same("the latest of slot 0", x.rate(0), 3);
        x.restoreSnapshot(1);
        Check.same("slot 1 has its own", x.rate(0), 4);
    }

    private static void fullRowsThenFewer() {
        Document.says(41, "in place of what the slot held before");
        IntercompanyLedger x = Ledgers.of(Ledgers.THREE);
        x.saveSnapshot(1);
        String empty = Picture.of(x);
        for (int row = 0; row < 100; row++) {
            x.book(0, 1, 0, row, row + 1);
            x.deliver(0, 0, 1, row + 1, row + 1);
        }
        String full = Picture.of(x);
        x.saveSnapshot(0);
        x.restoreSnapshot(1);
        Check.sameText("no rows", Picture.of(x), empty);
        x.book(1, 0, 1, 9, 9);
        x.deliver(0, 0, 2, 9, 9);
        String one = Picture.of(x);
        x.saveSnapshot(1);
        x.restoreSnapshot(0);
        Check.sameText("all rows", Picture.of(x), full);
        x.saveSnapshot(0);
        x.restoreSnapshot(1);
        Check.sameText("one row", Picture.of(x), one);
        x.saveSnapshot(0);
        x.undo();
        x.restoreSnapshot(0);
        Check.sameText("fewer in place of more", Picture.of(x), one);
    }

    private static void everythingThatChanges() {
        Document.says(TEXT, "a snapshot holds everything that changes can change");
        IntercompanyLedger x = Twins.busy();
        String before = Picture.of(x);
        x.saveSnapshot(1);
        x.match();
        x.accept(4);
        x.net();
        x.setRate(0, 3);
        x.setRate(1, 4);
        x.setTolerance(5);
        x.book(2, 0, 0, 7, 7);
        x.book(2, 0, 0, 7, 7);
        x.cancel(9);
        x.deliver(1, 1, 0, 9, 9);
        x.sell(1, 0, 4, 9);
        x.sell(2, 0, 4, 9);
        x.restoreSnapshot(1);
        Check.sameText("all of it", Picture.of(x), before);
        Check.same("the tolerance too", x.setTolerance(1), 20);
    }

    // ---- promise 42

    private static void emptyAndMissingSlots() {
        Document.says(42, "Returns true; false, with nothing changed, if there is no such slot or it is empty.");
        IntercompanyLedger x = Ledgers.of(Ledgers.THREE);
        for (int slot : new int[] {0, 1, -1, 2, Integer.MAX_VALUE, Integer.MIN_VALUE}) {
            Check.same("restore " + slot, x.restoreSnapshot(slot), false);
        }
        x.saveSnapshot(0);
        Check.same("slot 1 is still empty", x.restoreSnapshot(1), false);
        Check.same("slot 0 is not", x.restoreSnapshot(0), true);
        Check.same("no slot", x.restoreSnapshot(2), false);
        Twins.unchanged("restore of an empty slot", y -> y.restoreSnapshot(1));
        Twins.unchanged("restore of slot 2", y -> y.restoreSnapshot(2));
        Twins.unchanged("restore of slot -1", y -> y.restoreSnapshot(-1));
    }

    private static void bothSlotsAreRestored() {
        Document.says(42, "`slot`: 0 or 1");
        for (int slot = 0; slot <= 1; slot++) {
            IntercompanyLedger x = changed(1);
            x.saveSnapshot(slot);
            x.setRate(0, 2);
            Check.same("the other one is empty", x.restoreSnapshot(1 - slot), false);
            Check.same("nothing changed", x.rate(0), 2);
            Check.same("slot " + slot, x.restoreSnapshot(slot), true);
            Check.same("rate", x.rate(0), 1);
        }
    }

    private static void historyIsCleared() {
        Document.says(42, "Restores a snapshot and clears the undo history.");
        IntercompanyLedger x = changed(12);
        x.saveSnapshot(0);
        Check.same("restored at once", x.restoreSnapshot(0), true);
        Check.same("nothing to undo", x.undo(), NONE);
        Check.same("rate", x.rate(0), 12);
        x.setRate(0, 13);
        Check.same("what comes later can be undone", x.undo(), 0);
        Check.same("rate", x.rate(0), 12);
        Check.same("nothing more", x.undo(), NONE);
        x.setRate(0, 14);
        x.restoreSnapshot(0);
        Check.same("restored", x.rate(0), 12);
        Check.same("restoring cannot be undone", x.undo(), NONE);
        Check.same("restored", x.rate(0), 12);
    }

    private static void snapshotStays() {
        Document.says(42, "The snapshot stays in its slot.");
        IntercompanyLedger x = Twins.busy();
        String before = Picture.of(x);
        x.saveSnapshot(1);
        for (int time = 1; time <= 3; time++) {
            x.match();
            x.net();
            x.sell(1, 0, 4, 1);
            x.cancel(x.book(0, 1, 0, time, time));
            x.setTolerance(time);
            Check.same("restore " + time, x.restoreSnapshot(1), true);
            Check.sameText("as it was", Picture.of(x), before);
            Check.same("tolerance", x.setTolerance(0), 20);
        }
        x.undo();
        x.saveSnapshot(0);
        x.match();
        x.restoreSnapshot(1);
        Check.sameText("the other slot did not touch it", Picture.of(x), before);
    }

    /** Each of two slots has other rows at the same numbers, so nothing of the one may be left in the other. */
    private static void otherRowsInEachSlot() {
        Document.says(42, "Restores a snapshot");
        IntercompanyLedger x = Ledgers.of(Ledgers.THREE + "product 1 50 0 0;");
        x.book(0, 1, 0, 5, 1000);
        x.book(1, 0, 1, 5, 1990);
        x.match();
        x.net();
        x.deliver(0, 0, 2, 5, 150);
        String first = Picture.of(x);
        x.saveSnapshot(0);
        for (int change = 0; change < 5; change++) {
            x.undo();
        }
        x.book(2, 1, 1, 6, 12);
        x.book(1, 2, 0, 6, 14);
        x.match();
        x.net();
        x.deliver(1, 1, 0, 8, 45);
        String second = Picture.of(x);
        x.saveSnapshot(1);
        for (int time = 0; time < 2; time++) {
            x.restoreSnapshot(0);
            Check.sameText("slot 0", Picture.of(x), first);
            Check.same("the settled value", x.value(1), 995);
            Check.same("the giver", x.gapsOf(0), 100);
            Check.same("the product", x.stock(2, 0), 5);
            x.restoreSnapshot(1);
            Check.sameText("slot 1", Picture.of(x), second);
            Check.same("the settled value", x.value(1), 7);
            Check.same("the giver", x.gapsOf(1), -40);
            Check.same("the product", x.stock(0, 1), 8);
        }
    }

    // ---- the limit of an object's use

    private static void fiveHundredAndTwelveCalls() {
        Document.says(TEXT, "The latest 10 changes can be undone, the latest first.");
        IntercompanyLedger x = new IntercompanyLedger();
        for (int change = 1; change <= 501; change++) {
            Check.same("change " + change, x.setTolerance(change % 7), (change - 1) % 7);
        }
        for (int left = 9; left >= 0; left--) {
            Check.same("undo", x.undo(), left);
        }
        Check.same("the 512th call", x.setTolerance(0), 491 % 7);
    }

    static void all() {
        nothingToUndo();
        tenAtMost();
        latestNotUndone();
        everyChange();
        questionsAreNoChanges();
        refusedCalls();
        parseIsNoChange();
        parseOfTheSameText();
        twoSlots();
        savedOrNot();
        inPlaceOfTheFormer();
        fullRowsThenFewer();
        everythingThatChanges();
        emptyAndMissingSlots();
        bothSlotsAreRestored();
        historyIsCleared();
        snapshotStays();
        otherRowsInEachSlot();
        fiveHundredAndTwelveCalls();
    }
}
