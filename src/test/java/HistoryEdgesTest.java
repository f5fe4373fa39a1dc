import java.util.NoSuchElementException;

/** What undo and the snapshot keep, at their ends: both sides of each, under its sentence. */
public final class HistoryEdgesTest {
    private static final Class<IllegalStateException> STATE = IllegalStateException.class;

    public static void main(String[] args) {
        eightChanges();
        changesAfterUndo();
        changesWithoutDifference();
        binsComeBack();
        sacksComeBack();
        notCovered();
        snapshotsOfNothing();
        Check.end();
    }

    private static SighGranary withBin(int capacity) {
        SighGranary x = new SighGranary();
        x.addBin(capacity, 'f');
        return x;
    }

    // "The latest 8 changes can be undone."
    private static void eightChanges() {
        for (int changes = 0; changes <= 10; changes++) {
            SighGranary x = withBin(20);
            x.saveSnapshot();
            x.restoreSnapshot();
            for (int mice = 1; mice <= changes; mice++) {
                x.setMice(0, mice);
            }
            int kept = Math.min(changes, 8);
            for (int left = kept - 1; left >= 0; left--) {
                Check.same("59: of " + changes + " changes", x.undo(), left);
                Check.same("59: undone one by one", x.miceIn(0), changes - kept + left);
            }
            Check.fails("59: none is left", STATE, x::undo);
            Check.same("59: as before these", x.miceIn(0), changes - kept);
        }
    }

    // 59: "Undoes the latest change that has not been undone."
    private static void changesAfterUndo() {
        for (int undone = 0; undone <= 8; undone++) {
            for (int again = 0; again <= 9; again++) {
                SighGranary x = withBin(20);
                for (int mice = 1; mice <= 10; mice++) {
                    x.setMice(0, mice);
                }
                for (int left = 7; left >= 8 - undone; left--) {
                    Check.same("59: undone at first", x.undo(), left);
                }
                for (int change = 1; change <= again; change++) {
                    x.setMice(0, 10 + change);
                }
                undoAll(x, undone, again);
            }
        }
    }

    // The changes made since come first, and then those of the first ten that were not undone.
    private static void undoAll(SighGranary x, int undone, int again) {
        String what = "59: " + undone + " undone, " + again + " made since";
        int kept = Math.min(8, 8 - undone + again);
        for (int left = kept - 1; left >= 0; left--) {
            Check.same(what + ": left", x.undo(), left);
            int sinceLeft = again - (kept - left);
            Check.same(what + ": mice", x.miceIn(0), sinceLeft > 0 ? 10 + sinceLeft : 10 - undone + sinceLeft);
        }
        Check.fails(what + ": no more", STATE, x::undo);
    }

    // "A change is a call [..] that returns a value, also if nothing is different after it."
    private static void changesWithoutDifference() {
        SighGranary x = withBin(20);
        x.addSack(0, 5, 2, 0);
        x.saveSnapshot();
        x.restoreSnapshot();
        x.setMethod(0, 'f');
        x.setMice(0, 0);
        x.setTraps(0, 0);
        x.setPrice(0, 10);
        x.addSack(0, 5, 1, 1);
        Check.same("59: four before this one", x.undo(), 4);
        Check.run(x, "mice 0 0;traps 0 0;price 0 10");
        x.addSack(0, 5, 1, 1);
        Check.same("59: five before this one", x.undo(), 5);
        x.restoreSnapshot();
        x.addBin(20, 'f');
        x.sift(1, 9);
        x.sift(0, 1);
        Check.same("59: two before this one", x.undo(), 2);
    }

    // A bin that was undone leaves nothing to the next one; undo and the snapshot cover all that a bin has.
    private static void binsComeBack() {
        SighGranary x = new SighGranary();
        x.addBin(100, 'h');
        x.setMice(0, 7);
        x.setTraps(0, 3);
        x.saveSnapshot();
        x.undo();
        x.undo();
        x.undo();
        Check.same("59: no bins", x.binCount(), 0);
        Check.same("2: the first again", x.addBin(50, 'l'), 0);
        Check.same("2: empty, without mice and traps", Sight.ofBin(x, 0), "l0/50");
        x.restoreSnapshot();
        Check.same("61: as saved", Sight.ofBin(x, 0), "h0/100m7t3");
        SighGranary y = new SighGranary();
        y.saveSnapshot();
        y.addBin(100, 'h');
        y.setMice(0, 7);
        y.setTraps(0, 3);
        y.restoreSnapshot();
        y.addBin(50, 'l');
        Check.same("2: nothing is left of the earlier one", Sight.ofBin(y, 0), "l0/50");
    }

    // A sack that has disappeared, and in whose place another has come, comes back with all that it had.
    private static void sacksComeBack() {
        SighGranary x = withBin(60);
        x.passMonths(5);
        x.addSack(0, 11, 12, 3);
        x.saveSnapshot();
        replaceSack(x);
        x.undo();
        x.undo();
        x.undo();
        firstSackIsBack("59", x);
        replaceSack(x);
        x.restoreSnapshot();
        firstSackIsBack("61", x);
    }

    private static void replaceSack(SighGranary x) {
        x.sell(0, 11);
        x.passMonths(2);
        x.addSack(0, 22, 5, 6);
        Check.same("15: the other sack", x.storedIn(1), 7);
    }

    private static void firstSackIsBack(String what, SighGranary x) {
        Check.same(what + ": the sack", Sight.ofSack(x, 0), "#0:11*12g3@0");
        Check.same(what + ": its month", x.storedIn(0), 5);
        Check.fails(what + ": the other is gone", NoSuchElementException.class, () -> x.weightOf(1));
    }

    /** A granary whose mice have become 2, with a bit of all that undo and the snapshot do not cover. */
    private static SighGranary withLatest() {
        SighGranary x = withBin(20);
        x.setMice(0, 1);
        x.saveSnapshot();
        x.setMice(0, 2);
        Check.type(x, "bin");
        Check.failsOnce("54: a syntax error", IllegalArgumentException.class, x::execute);
        Check.type(x, "months");
        x.writeBin(0);
        Check.rejects("26: a rejection", x, SighGranary.TOO_LITTLE, 0, () -> x.sell(0, 1));
        return x;
    }

    private static void latestStay(String what, SighGranary x) {
        Check.same(what + ": the mice", x.miceIn(0), 1);
        Check.same(what + ": the output", Sight.ofOutput(x), "f0/20m2");
        Check.same(what + ": the latest rejection", Sight.ofRejection(x), "5 0 NoSuchElementException");
        Check.same(what + ": the latest syntax error", x.syntaxErrorOffset(), 3);
        Check.same(what + ": the input", x.appendInput(' '), 7);
        x.appendInput('3');
        Check.same(what + ": the input is executed", x.execute(), 1);
        Check.same(what + ": the months have passed", x.month(), 3);
    }

    // "Undo and the snapshot cover everything but the input, the output, the latest rejection and the latest syntax
    // error"
    private static void notCovered() {
        SighGranary undone = withLatest();
        Check.same("59: undo", undone.undo(), 2);
        latestStay("59", undone);
        Check.same("59: undo of the input's commands", undone.undo(), 2);
        Check.same("59: their months have not passed", undone.month(), 0);
        Check.same("59: the input does not come back", undone.appendInput('b'), 1);
        SighGranary restored = withLatest();
        Check.same("61: restore", restored.restoreSnapshot(), 1);
        latestStay("61", restored);
        Check.same("61: restore again", restored.restoreSnapshot(), 1);
        Check.same("61: the months have not passed", restored.month(), 0);
        Check.same("61: the input does not come back", restored.appendInput('b'), 1);
    }

    // 61: "if there is no snapshot"; 60: "in place of an earlier snapshot"
    private static void snapshotsOfNothing() {
        SighGranary x = new SighGranary();
        x.setPrice(0, 3);
        Check.fails("61: no snapshot", STATE, x::restoreSnapshot);
        Check.same("61: which leaves what can be undone", x.undo(), 0);
        for (int bins = 0; bins <= 5; bins++) {
            Check.same("60: bins", x.saveSnapshot(), bins);
            Check.same("61: bins", x.restoreSnapshot(), bins);
            Check.fails("61: nothing to undo", STATE, x::undo);
            if (bins < 5) {
                x.addBin(20, 'f');
            }
        }
        SighGranary other = new SighGranary();
        Check.fails("61: each granary has its own", STATE, other::restoreSnapshot);
    }
}
