import java.util.function.Consumer;

/** Two ledgers with the same past: after a call that changes nothing they still answer alike. */
final class Twins {

    private Twins() {
    }

    /**
     * Items 0 and 1 are settled, 2 and 3 matched, 4 and 5 disputed, 6 and 7 open, 8 is cancelled. Company 1 has 4
     * pieces of product 0 and company 2 has 4. The history is full, slot 0 too, slot 1 is empty, and the buffer has 40 bytes.
     */
    static IntercompanyLedger busy() {
        IntercompanyLedger x = Ledgers.of(Ledgers.THREE + "product 1 50 0 0;");
        x.book(0, 1, 0, 5, 1000);
        x.book(1, 0, 1, 5, 1990);
        x.match();
        x.net();
        x.saveSnapshot(0);
        x.book(0, 1, 0, 6, 1000);
        x.book(1, 0, 1, 6, 1980);
        x.book(2, 1, 0, 9, 500);
        x.book(1, 2, 1, 9, 900);
        x.match();
        x.book(0, 2, 0, 1, 10);
        x.book(2, 0, 1, 1, 12);
        x.book(0, 2, 0, 3, 44);
        x.cancel(8);
        x.deliver(0, 0, 1, 10, 125);
        x.deliver(0, 1, 2, 4, 150);
        x.sell(1, 0, 2, 180);
        Ledgers.append(x, "currency 7;company 0;");
        return x;
    }

    /** Holds that a call, refused or not, changes nothing of a busy ledger. */
    static void unchanged(String call, Consumer<IntercompanyLedger> run) {
        alike(call + " changes nothing", after(run), busy());
        // Asking for the tolerance is a change itself, so ledgers of their own are asked.
        Check.same(call + " changes nothing, tolerance", after(run).setTolerance(3), busy().setTolerance(3));
    }

    private static IntercompanyLedger after(Consumer<IntercompanyLedger> run) {
        IntercompanyLedger x = busy();
        try {
            run.accept(x);
        } catch (IllegalArgumentException | IllegalStateException | IndexOutOfBoundsException e) {
            // Which exception it is the tests of the promises ask.
        }
        return x;
    }

    /** Compares what stands, the whole history, both slots and the buffer. */
    static void alike(String call, IntercompanyLedger one, IntercompanyLedger other) {
        seenAlike(call + ", at once", one, other);
        for (int step = 1; step <= 11; step++) {
            Check.same(call + ", undo " + step, one.undo(), other.undo());
            seenAlike(call + ", after undo " + step, one, other);
        }
        for (int slot = 0; slot <= 1; slot++) {
            Check.same(call + ", slot " + slot, one.restoreSnapshot(slot), other.restoreSnapshot(slot));
            seenAlike(call + ", after slot " + slot, one, other);
            Check.same(call + ", tolerance", one.setTolerance(3), other.setTolerance(3));
        }
        int length = one.append(0, 0, 0, 0, 0);
        Check.same(call + ", buffer", length, other.append(0, 0, 0, 0, 0));
        Check.same(call + ", text", one.parse(Math.min(length, 21)), other.parse(Math.min(length, 21)));
    }

    private static void seenAlike(String call, IntercompanyLedger one, IntercompanyLedger other) {
        Check.sameText(call, Picture.of(one), Picture.of(other));
    }
}
