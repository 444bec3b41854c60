/** Promises 40 to 42: undo, saveSnapshot, restoreSnapshot. */
public final class UndoTest {

    private static final int NONE = IntercompanyLedger.NONE;

    private static void undo() {
        IntercompanyLedger x = Ledgers.of(Ledgers.THREE);
        Check.same("nothing to undo", x.undo(), NONE);
        for (int i = 1; i <= 13; i++) {
            x.setRate(0, i);
        }
        for (int left = 9; left >= 0; left--) {
            Check.same("undo", x.undo(), left);
            Check.same("rate", x.rate(0), left + 3);
        }
        Check.same("ten at most", x.undo(), NONE);
        Check.same("rate", x.rate(0), 3);
        x.setRate(0, 50);
        Check.same("a new change", x.undo(), 0);
        Check.same("rate", x.rate(0), 3);
    }

    private static void undoThenChange() {
        IntercompanyLedger x = Ledgers.of(Ledgers.THREE);
        for (int i = 1; i <= 10; i++) {
            x.setTolerance(i);
        }
        x.undo();
        x.undo();
        x.book(0, 1, 0, 5, 77);
        Check.same("book was undone", x.undo(), 8);
        Check.same("size", x.size(3), 0);
        Check.same("the change before", x.undo(), 7);
        Check.same("tolerance", x.setTolerance(0), 7);
    }

    private static void refusedIsNoChange() {
        IntercompanyLedger x = Ledgers.of(Ledgers.THREE);
        x.setTolerance(1);
        Check.noArgument("refused", () -> x.setTolerance(-1));
        Check.noIndex("refused", () -> x.setRate(9, 1));
        Check.noIndex("refused", () -> x.book(9, 0, 0, 0, 1));
        Check.noIndex("refused", () -> x.cancel(0));
        Check.noIndex("refused", () -> x.release(0));
        Check.noIndex("refused", () -> x.accept(0));
        Check.noState("refused", x::net);
        Check.noState("refused", () -> x.deliver(0, 1, 2, 1, 1));
        Check.noState("refused", () -> x.sell(1, 0, 1, 1));
        Check.same("one change", x.undo(), 0);
    }

    private static void everyChangeIsUndone() {
        IntercompanyLedger x = Ledgers.of(Ledgers.THREE);
        x.book(0, 1, 0, 5, 1000);
        x.book(1, 0, 1, 5, 2000);
        x.book(0, 1, 0, 6, 1000);
        x.book(1, 0, 1, 6, 1000);
        x.deliver(0, 0, 1, 10, 125);
        x.deliver(0, 0, 1, 10, 175);
        String[] before = new String[11];
        Runnable[] changes = {
            () -> x.book(1, 2, 0, 9, 9), () -> x.cancel(4), x::match, () -> x.release(0), x::match,
            () -> x.accept(2), () -> x.setRate(1, 77), () -> x.net(), () -> x.deliver(0, 1, 2, 12, 111),
            () -> x.sell(1, 0, 5, 300),
        };
        for (int i = 0; i < changes.length; i++) {
            before[i] = Picture.of(x);
            changes[i].run();
            if (before[i].equals(Picture.of(x))) {
                Check.tell("change " + i + " changed nothing");
            }
        }
        for (int i = changes.length - 1; i >= 0; i--) {
            Check.same("undo of change " + i, x.undo(), i);
            Check.sameText("after undo of change " + i, Picture.of(x), before[i]);
        }
    }

    private static void snapshots() {
        IntercompanyLedger x = Ledgers.of(Ledgers.THREE);
        Check.same("empty slot 0", x.restoreSnapshot(0), false);
        Check.same("empty slot 1", x.restoreSnapshot(1), false);
        for (int slot : new int[] {-1, 2, 9, Integer.MAX_VALUE, Integer.MIN_VALUE}) {
            Check.same("no slot to save", x.saveSnapshot(slot), false);
            Check.same("no slot to restore", x.restoreSnapshot(slot), false);
        }
        x.book(0, 1, 0, 5, 1000);
        String first = Picture.of(x);
        Check.same("save 0", x.saveSnapshot(0), true);
        Check.same("saving is no change", x.undo(), 0);
        x.book(2, 0, 1, 8, 77);
        x.setTolerance(3);
        x.setRate(0, 9);
        x.deliver(0, 0, 1, 5, 5);
        String second = Picture.of(x);
        Check.same("save 1", x.saveSnapshot(1), true);
        Check.same("restore 0", x.restoreSnapshot(0), true);
        Check.sameText("as it was, with other rows", Picture.of(x), first);
        Check.same("tolerance", x.setTolerance(4), 20);
        Check.same("undo history was cleared", x.undo(), 0);
        Check.same("undo history was cleared", x.undo(), NONE);
        Check.same("restore 1", x.restoreSnapshot(1), true);
        Check.sameText("the other slot", Picture.of(x), second);
        Check.same("tolerance", x.setTolerance(4), 3);
        x.sell(1, 0, 5, 1);
        Check.same("restore 1 again", x.restoreSnapshot(1), true);
        Check.sameText("the snapshot stays", Picture.of(x), second);
        Check.same("nothing to undo", x.undo(), NONE);
        x.cancel(0);
        String third = Picture.of(x);
        Check.same("save 1 anew", x.saveSnapshot(1), true);
        x.undo();
        x.restoreSnapshot(1);
        Check.sameText("in place of what it held", Picture.of(x), third);
    }

    /** What a slot holds must come back even if other rows were put at the same numbers. */
    private static void otherRowsInBetween() {
        IntercompanyLedger x = Ledgers.of(Ledgers.THREE + "product 1 50 0 0;");
        x.book(0, 1, 0, 5, 1000);
        x.book(1, 0, 1, 5, 2000);
        x.match();
        x.net();
        x.deliver(0, 0, 1, 7, 150);
        String saved = Picture.of(x);
        x.saveSnapshot(1);
        for (int left = 4; left >= 0; left--) {
            Check.same("undo", x.undo(), left);
        }
        x.book(1, 2, 1, 9, 80);
        x.book(2, 1, 0, 9, 40);
        x.match();
        x.net();
        x.deliver(1, 1, 2, 8, 55);
        String other = Picture.of(x);
        x.saveSnapshot(0);
        x.restoreSnapshot(1);
        Check.sameText("slot 1", Picture.of(x), saved);
        Check.same("settled value", x.value(0), 1000);
        Check.same("gap", x.gap(0), 140);
        Check.same("gaps", x.gapsOf(0), 140);
        x.restoreSnapshot(0);
        Check.sameText("slot 0", Picture.of(x), other);
        Check.same("settled value", x.value(0), 40);
        Check.same("gap", x.gap(0), 40);
        Check.same("gaps", x.gapsOf(1), 40);
        Check.same("stock", x.stock(2, 1), 8);
    }

    private static void failedRestoreKeeps() {
        IntercompanyLedger x = Ledgers.of(Ledgers.THREE);
        x.setTolerance(5);
        Check.same("empty", x.restoreSnapshot(1), false);
        Check.same("no slot", x.restoreSnapshot(2), false);
        Check.same("the history stays", x.undo(), 0);
    }

    private static void snapshotWithSums() {
        IntercompanyLedger x = Ledgers.of(Ledgers.THREE);
        x.book(0, 1, 0, 5, 1000);
        x.book(1, 0, 1, 5, 1990);
        x.match();
        x.net();
        x.sell(0, 0, 3, 500);
        String saved = Picture.of(x);
        x.saveSnapshot(0);
        x.book(0, 1, 0, 5, 1000);
        x.book(1, 0, 1, 5, 1970);
        x.match();
        x.net();
        x.sell(0, 0, 3, 500);
        x.setRate(1, 1);
        Check.same("fees", x.total(5), 28);
        x.restoreSnapshot(0);
        Check.sameText("sums", Picture.of(x), saved);
        Check.same("fees", x.total(5), 14);
        Check.same("settled position", x.settledPosition(0), 1000);
        IntercompanyLedger y = new IntercompanyLedger();
        Check.same("a snapshot of a new object", y.saveSnapshot(1), true);
        y.setTolerance(7);
        Check.same("restored", y.restoreSnapshot(1), true);
        Check.same("tolerance", y.setTolerance(1), 0);
    }

    public static void main(String[] args) {
        undo();
        undoThenChange();
        refusedIsNoChange();
        everyChangeIsUndone();
        snapshots();
        otherRowsInBetween();
        failedRestoreKeeps();
        snapshotWithSums();
        Check.end();
    }
}
