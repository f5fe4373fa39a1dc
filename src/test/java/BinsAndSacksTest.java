import java.util.NoSuchElementException;

/** Promises 1 to 16. */
public final class BinsAndSacksTest {
    private static final Class<IndexOutOfBoundsException> NO_BIN = IndexOutOfBoundsException.class;
    private static final Class<IllegalArgumentException> BAD = IllegalArgumentException.class;
    private static final Class<NoSuchElementException> NONE = NoSuchElementException.class;

    public static void main(String[] args) {
        promise1NewObject();
        promise2AddBin();
        promise3SetMethod();
        promise4AddSack();
        promise4Rejections();
        promise5MoveSack();
        promise5Rejections();
        promises6To9BinQueries();
        promise10SackAt();
        promise11WeightIn();
        promises12To16SackQueries();
        Check.end();
    }

    private static void promise1NewObject() {
        SighGranary x = new SighGranary();
        Check.same("1: binCount", x.binCount(), 0);
        Check.same("1: month", x.month(), 0);
        Check.same("1: weightTotal", x.weightTotal(), 0);
        Check.same("1: storedWeight", x.storedWeight(), 0);
        Check.fails("1: no rejection", NONE, x::rejectionReason);
        Check.fails("1: no sack 0", NONE, () -> x.weightOf(0));
        for (int month = 0; month < 12; month++) {
            Check.same("1: priceIn", x.priceIn(month), 10);
        }
    }

    private static void promise2AddBin() {
        SighGranary x = new SighGranary();
        Check.fails("2: capacity 19", BAD, () -> x.addBin(19, 'f'));
        Check.fails("2: capacity 401", BAD, () -> x.addBin(401, 'f'));
        Check.fails("2: capacity least int", BAD, () -> x.addBin(Integer.MIN_VALUE, 'f'));
        Check.fails("2: method F", BAD, () -> x.addBin(20, 'F'));
        Check.fails("2: method g", BAD, () -> x.addBin(20, 'g'));
        Check.same("2: no bin yet", x.binCount(), 0);
        Check.same("2: capacity 20", x.addBin(20, 'f'), 0);
        Check.same("2: capacity 400", x.addBin(400, 'l'), 1);
        Check.same("2: heaviest", x.addBin(100, 'h'), 2);
        Check.same("2: no sacks", x.sackCount(2), 0);
        Check.same("2: no mice", x.miceIn(2), 0);
        Check.same("2: no traps", x.trapsIn(2), 0);
        x.addBin(100, 'f');
        Check.same("2: the fifth", x.addBin(100, 'f'), 4);
        Check.fails("2: bad values ahead of the limit", BAD, () -> x.addBin(19, 'f'));
        Check.fails("2: and change no rejection", NONE, x::rejectionReason);
        Check.rejects("2: the sixth", x, SighGranary.BIN_LIMIT, 5, () -> x.addBin(100, 'f'));
        Check.same("2: still five", x.binCount(), 5);
    }

    private static void promise3SetMethod() {
        SighGranary x = new SighGranary();
        Check.fails("3: no bin ahead of no method", NO_BIN, () -> x.setMethod(0, 'x'));
        x.addBin(20, 'f');
        Check.same("3: f before", x.setMethod(0, 'l'), 'f');
        Check.same("3: l before", x.setMethod(0, 'h'), 'l');
        Check.same("3: h before", x.setMethod(0, 'h'), 'h');
        Check.fails("3: no method", BAD, () -> x.setMethod(0, 'e'));
        Check.fails("3: bin -1", NO_BIN, () -> x.setMethod(-1, 'f'));
        Check.fails("3: bin 1", NO_BIN, () -> x.setMethod(1, 'f'));
        Check.same("3: unchanged", x.methodOf(0), 'h');
    }

    private static void promise4AddSack() {
        SighGranary x = new SighGranary();
        Check.fails("4: no bin ahead of bad values", NO_BIN, () -> x.addSack(0, 0, 0, 10));
        x.addBin(400, 'f');
        Check.fails("4: weight 0", BAD, () -> x.addSack(0, 0, 1, 0));
        Check.fails("4: weight 61", BAD, () -> x.addSack(0, 61, 1, 0));
        Check.fails("4: price 0", BAD, () -> x.addSack(0, 1, 0, 0));
        Check.fails("4: price 31", BAD, () -> x.addSack(0, 1, 31, 0));
        Check.fails("4: grade -1", BAD, () -> x.addSack(0, 1, 1, -1));
        Check.fails("4: grade 10", BAD, () -> x.addSack(0, 1, 1, 10));
        Check.fails("4: bin 1", NO_BIN, () -> x.addSack(1, 1, 1, 1));
        Check.same("4: least", x.addSack(0, 1, 1, 0), 0);
        Check.same("4: most", x.addSack(0, 60, 30, 9), 1);
        Check.same("4: stored", x.weightIn(0), 61);
        x.sell(0, 61);
        Check.same("4: ids are not used again", x.addSack(0, 5, 5, 5), 2);
    }

    private static void promise4Rejections() {
        SighGranary x = new SighGranary();
        x.addBin(50, 'f');
        x.addBin(20, 'f');
        for (int sack = 0; sack < 9; sack++) {
            x.addSack(0, 5, 1, 0);
        }
        Check.rejects("4: overfull", x, SighGranary.OVERFULL, 5, () -> x.addSack(0, 6, 1, 0));
        Check.same("4: just full", x.addSack(0, 5, 1, 0), 9);
        Check.rejects("4: the limit is the first reason", x, SighGranary.SACK_LIMIT, 0, () -> x.addSack(0, 6, 1, 0));
        Check.fails("4: bad values ahead of a rejection", BAD, () -> x.addSack(0, 61, 1, 0));
        x.addSack(1, 20, 1, 0);
        Check.rejects("4: no room at all", x, SighGranary.OVERFULL, 0, () -> x.addSack(1, 1, 1, 0));
        Check.same("4: stored weight", x.storedWeight(), 70);
    }

    private static void promise5MoveSack() {
        SighGranary x = new SighGranary();
        x.addBin(100, 'f');
        x.addBin(100, 'f');
        x.addSack(0, 10, 1, 0);
        x.addSack(1, 20, 2, 1);
        x.passMonths(1);
        Check.fails("5: no sack ahead of no bin", NONE, () -> x.moveSack(2, 9));
        Check.fails("5: sack -1", NONE, () -> x.moveSack(-1, 0));
        Check.fails("5: bin 2", NO_BIN, () -> x.moveSack(0, 2));
        Check.fails("5: bin -1", NO_BIN, () -> x.moveSack(0, -1));
        Check.same("5: weight in the new bin", x.moveSack(0, 1), 30);
        Check.same("5: binOf", x.binOf(0), 1);
        Check.same("5: the old bin is empty", x.weightIn(0), 0);
        Check.same("5: the order of ids stays", x.sackAt(1, 0), 0);
        Check.same("5: stored month stays", x.storedIn(0), 0);
    }

    private static void promise5Rejections() {
        SighGranary x = new SighGranary();
        x.addBin(400, 'f');
        x.addBin(20, 'f');
        for (int sack = 0; sack < 10; sack++) {
            x.addSack(0, 1 + sack, 1, 0);
        }
        x.addSack(1, 15, 1, 0);
        Check.rejects("5: same bin ahead of its limit", x, SighGranary.SAME_BIN, 0, () -> x.moveSack(3, 0));
        Check.rejects("5: same bin", x, SighGranary.SAME_BIN, 1, () -> x.moveSack(10, 1));
        Check.rejects("5: sack limit", x, SighGranary.SACK_LIMIT, 0, () -> x.moveSack(10, 0));
        Check.rejects("5: overfull", x, SighGranary.OVERFULL, 5, () -> x.moveSack(5, 1));
        Check.same("5: just fits", x.moveSack(4, 1), 20);
        Check.same("5: rejected moves do nothing", x.binOf(5), 0);
        Check.rejects("5: limit ahead of overfull", limitAndOverfull(x), SighGranary.SACK_LIMIT, 2, () -> x.moveSack(9, 2));
    }

    private static SighGranary limitAndOverfull(SighGranary x) {
        x.addBin(20, 'f');
        for (int sack = 0; sack < 10; sack++) {
            x.addSack(2, 2, 1, 0);
        }
        return x;
    }

    private static void promises6To9BinQueries() {
        SighGranary x = new SighGranary();
        x.addBin(33, 'l');
        x.addBin(44, 'h');
        x.addSack(1, 3, 3, 3);
        x.addSack(1, 4, 3, 3);
        Check.same("6: binCount", x.binCount(), 2);
        Check.same("7: capacityOf", x.capacityOf(0), 33);
        Check.same("7: capacityOf", x.capacityOf(1), 44);
        Check.fails("7: bin 2", NO_BIN, () -> x.capacityOf(2));
        Check.fails("7: bin -1", NO_BIN, () -> x.capacityOf(-1));
        Check.same("8: methodOf", x.methodOf(0), 'l');
        Check.same("8: methodOf", x.methodOf(1), 'h');
        Check.fails("8: bin 2", NO_BIN, () -> x.methodOf(2));
        Check.fails("8: bin -1", NO_BIN, () -> x.methodOf(-1));
        Check.same("9: sackCount", x.sackCount(0), 0);
        Check.same("9: sackCount", x.sackCount(1), 2);
        x.sell(1, 3);
        Check.same("9: a sack with a weight stays", x.sackCount(1), 2);
        x.sell(1, 3);
        Check.same("9: an empty one disappears", x.sackCount(1), 1);
        Check.fails("9: bin 2", NO_BIN, () -> x.sackCount(2));
        Check.fails("9: bin -1", NO_BIN, () -> x.sackCount(Integer.MIN_VALUE));
    }

    private static void promise10SackAt() {
        SighGranary x = new SighGranary();
        Check.fails("10: no bin ahead of no position", NO_BIN, () -> x.sackAt(0, 0));
        x.addBin(400, 'f');
        int[] weights = {20, 30, 20, 40, 30, 20};
        for (int weight : weights) {
            x.addSack(0, weight, 1, 0);
        }
        Check.same("10: first", orderOf(x), "012345");
        x.setMethod(0, 'l');
        Check.same("10: last", orderOf(x), "543210");
        x.setMethod(0, 'h');
        Check.same("10: heaviest", orderOf(x), "314025");
        Check.fails("10: position -1", NONE, () -> x.sackAt(0, -1));
        Check.fails("10: position 6", NONE, () -> x.sackAt(0, 6));
        Check.fails("10: greatest position", NONE, () -> x.sackAt(0, Integer.MAX_VALUE));
    }

    private static String orderOf(SighGranary x) {
        StringBuilder order = new StringBuilder();
        for (int position = 0; position < x.sackCount(0); position++) {
            order.append(x.sackAt(0, position));
        }
        return order.toString();
    }

    private static void promise11WeightIn() {
        SighGranary x = new SighGranary();
        x.addBin(400, 'f');
        x.addBin(400, 'f');
        Check.same("11: empty", x.weightIn(0), 0);
        x.addSack(0, 11, 1, 0);
        x.addSack(1, 22, 1, 0);
        x.addSack(0, 33, 1, 0);
        Check.same("11: bin 0", x.weightIn(0), 44);
        Check.same("11: bin 1", x.weightIn(1), 22);
        Check.fails("11: bin 2", NO_BIN, () -> x.weightIn(2));
        Check.fails("11: bin -1", NO_BIN, () -> x.weightIn(-1));
    }

    private static void promises12To16SackQueries() {
        SighGranary x = new SighGranary();
        x.addBin(100, 'f');
        x.addBin(100, 'f');
        x.addSack(0, 11, 12, 3);
        x.passMonths(14);
        x.addSack(1, 21, 22, 4);
        Check.same("12: weightOf", x.weightOf(1), 21);
        Check.same("13: priceOf", x.priceOf(1), 22);
        Check.same("14: gradeOf", x.gradeOf(1), 4);
        Check.same("15: storedIn", x.storedIn(1), 14);
        Check.same("15: storedIn", x.storedIn(0), 0);
        Check.same("16: binOf", x.binOf(1), 1);
        Check.same("16: binOf", x.binOf(0), 0);
        x.sell(0, 11);
        for (int id : new int[] {-1, 0, 2, Integer.MAX_VALUE}) {
            Check.fails("12: no sack", NONE, () -> x.weightOf(id));
            Check.fails("13: no sack", NONE, () -> x.priceOf(id));
            Check.fails("14: no sack", NONE, () -> x.gradeOf(id));
            Check.fails("15: no sack", NONE, () -> x.storedIn(id));
            Check.fails("16: no sack", NONE, () -> x.binOf(id));
        }
    }
}
