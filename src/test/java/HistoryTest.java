import java.util.NoSuchElementException;

/** Promises 56 to 61, and the constants. */
public final class HistoryTest {
    private static final Class<IllegalStateException> STATE = IllegalStateException.class;
    private static final Class<NoSuchElementException> NONE = NoSuchElementException.class;

    public static void main(String[] args) {
        constants();
        promises56To58Rejections();
        promise59EachChange();
        promise59Depth();
        promise59NotChanges();
        promise59NextId();
        promise60And61Snapshot();
        promise61History();
        Check.end();
    }

    private static void constants() {
        Check.same("BIN_LIMIT", SighGranary.BIN_LIMIT, 1);
        Check.same("SACK_LIMIT", SighGranary.SACK_LIMIT, 2);
        Check.same("OVERFULL", SighGranary.OVERFULL, 3);
        Check.same("SAME_BIN", SighGranary.SAME_BIN, 4);
        Check.same("TOO_LITTLE", SighGranary.TOO_LITTLE, 5);
        Check.same("COMMAND_REJECTED", SighGranary.COMMAND_REJECTED, 6);
    }

    private static void promises56To58Rejections() {
        SighGranary x = new SighGranary();
        Check.fails("56: none yet", NONE, x::rejectionReason);
        Check.fails("57: none yet", NONE, x::rejectionDetail);
        Check.fails("58: none yet", NONE, x::causeReason);
        x.addBin(20, 'f');
        x.addSack(0, 12, 1, 1);
        Check.rejects("56: overfull", x, SighGranary.OVERFULL, 8, () -> x.addSack(0, 9, 1, 1));
        Check.fails("58: not a command", NONE, x::causeReason);
        Check.type(x, "mice 0 1;sell 0 13");
        Check.rejects("56: a command", x, SighGranary.COMMAND_REJECTED, 1, x::execute);
        Check.same("58: its cause", x.causeReason(), SighGranary.TOO_LITTLE);
        Check.type(x, "months 0");
        Check.failsOnce("56: another failure", STATE, x::execute);
        Check.failsOnce("56: a syntax error", IllegalArgumentException.class, x::execute);
        x.undo();
        x.saveSnapshot();
        x.restoreSnapshot();
        Check.same("56: undo and the snapshot do not cover it", x.rejectionReason(), SighGranary.COMMAND_REJECTED);
        Check.same("57: nor its detail", x.rejectionDetail(), 1);
        Check.same("58: nor its cause", x.causeReason(), SighGranary.TOO_LITTLE);
        Check.rejects("56: the latest", x, SighGranary.TOO_LITTLE, 0, () -> x.sell(0, 1));
        Check.fails("58: no cause any more", NONE, x::causeReason);
    }

    private static void promise59EachChange() {
        SighGranary x = new SighGranary();
        Check.fails("59: nothing to undo", STATE, x::undo);
        x.addBin(100, 'f');
        x.addBin(200, 'l');
        x.addSack(0, 50, 5, 2);
        x.setMice(0, 4);
        x.setTraps(0, 1);
        undone(x, () -> x.addBin(50, 'h'));
        undone(x, () -> x.setMethod(0, 'h'));
        undone(x, () -> x.addSack(1, 7, 7, 7));
        undone(x, () -> x.moveSack(0, 1));
        undone(x, () -> x.setMice(0, 9));
        undone(x, () -> x.setTraps(0, 9));
        undone(x, () -> x.passMonths(3));
        undone(x, () -> x.sift(0, 9));
        undone(x, () -> x.sell(0, 20));
        undone(x, () -> x.sell(0, 50));
        undone(x, () -> x.setPrice(3, 3));
        undone(x, () -> Check.run(x, "sack 0 1 1 1;months 1;price 4 4"));
    }

    private static void undone(SighGranary x, Runnable change) {
        String before = Sight.ofData(x);
        change.run();
        Check.holds("59: something is different", !before.equals(Sight.ofData(x)));
        x.undo();
        Check.same("59: as before", Sight.ofData(x), before);
    }

    private static void promise59Depth() {
        SighGranary x = new SighGranary();
        x.addBin(100, 'f');
        for (int mice = 1; mice <= 12; mice++) {
            x.setMice(0, mice);
        }
        for (int left = 7; left >= 5; left--) {
            Check.same("59: left to undo", x.undo(), left);
        }
        Check.same("59: three are undone", x.miceIn(0), 9);
        x.setMice(0, 20);
        Check.same("59: a new change ahead of five", x.undo(), 5);
        Check.same("59: it is undone", x.miceIn(0), 9);
        for (int left = 4; left >= 0; left--) {
            Check.same("59: left to undo", x.undo(), left);
        }
        Check.same("59: eight were kept", x.miceIn(0), 4);
        Check.fails("59: no more", STATE, x::undo);
        Check.same("59: no more is done", x.miceIn(0), 4);
    }

    private static void promise59NotChanges() {
        SighGranary x = new SighGranary();
        x.addBin(20, 'f');
        x.setMethod(0, 'f');
        x.sift(0, 1);
        Check.same("59: changes without a difference", x.undo(), 2);
        Check.fails("59: a failing call", IllegalArgumentException.class, () -> x.setMice(0, 21));
        Check.fails("59: a rejected call", UnsupportedOperationException.class, () -> x.sell(0, 1));
        Check.type(x, "mice 0 1;sell 0 1");
        Check.failsOnce("59: a rejected input", UnsupportedOperationException.class, x::execute);
        x.saveSnapshot();
        x.writeBin(0);
        x.appendInput('b');
        x.eatenWithin(0, 3);
        x.isConsistent();
        Check.same("59: none of them is a change", x.undo(), 1);
        Check.same("59: the first", x.undo(), 0);
        Check.same("59: no bin", x.binCount(), 0);
        Check.same("59: undo leaves the snapshot", x.restoreSnapshot(), 1);
    }

    private static void promise59NextId() {
        SighGranary x = new SighGranary();
        x.addBin(20, 'f');
        Check.same("59: id 0", x.addSack(0, 5, 1, 1), 0);
        Check.same("59: id 1", x.addSack(0, 5, 1, 1), 1);
        x.undo();
        Check.same("59: id 1 again", x.addSack(0, 5, 1, 1), 1);
        x.saveSnapshot();
        x.addSack(0, 5, 1, 1);
        x.restoreSnapshot();
        Check.same("61: id 2 again", x.addSack(0, 5, 1, 1), 2);
    }

    private static void promise60And61Snapshot() {
        SighGranary x = new SighGranary();
        Check.fails("61: no snapshot", STATE, x::restoreSnapshot);
        Check.same("60: no bins", x.saveSnapshot(), 0);
        x.addBin(100, 'f');
        x.addBin(200, 'l');
        x.addSack(0, 50, 5, 2);
        x.passMonths(2);
        x.setPrice(4, 4);
        Check.same("61: an empty one", x.restoreSnapshot(), 0);
        Check.same("61: month", x.month(), 0);
        Check.same("61: price", x.priceIn(4), 10);
        x.addBin(100, 'h');
        x.addSack(0, 40, 5, 2);
        x.setMice(0, 4);
        x.passMonths(2);
        x.sell(0, 3);
        String saved = Sight.ofData(x);
        Check.same("60: one bin, in place of the earlier", x.saveSnapshot(), 1);
        Check.same("60: saving changes nothing", Sight.ofData(x), saved);
        x.sell(0, 5);
        x.sift(0, 9);
        x.addBin(50, 'f');
        Check.same("61: one bin", x.restoreSnapshot(), 1);
        Check.same("61: as saved", Sight.ofData(x), saved);
        x.setTraps(0, 3);
        Check.same("61: it is kept", x.restoreSnapshot(), 1);
        Check.same("61: as saved", Sight.ofData(x), saved);
    }

    private static void promise61History() {
        SighGranary x = new SighGranary();
        x.addBin(100, 'f');
        x.saveSnapshot();
        x.setMice(0, 3);
        Check.same("60: a snapshot keeps the history", x.undo(), 1);
        x.setMice(0, 3);
        x.restoreSnapshot();
        Check.fails("61: nothing to undo", STATE, x::undo);
        x.setTraps(0, 3);
        Check.same("61: one change since", x.undo(), 0);
        Check.same("61: it is undone", x.trapsIn(0), 0);
    }
}
