/** Promises 30 to 38. */
public final class ValuesAndPlansTest {
    private static final Class<IndexOutOfBoundsException> NO_BIN = IndexOutOfBoundsException.class;
    private static final Class<IllegalArgumentException> BAD = IllegalArgumentException.class;

    public static void main(String[] args) {
        promises30To32Values();
        promises33And34Loads();
        promises35And36Splits();
        promises33To36EachBin();
        promises37And38Trades();
        Check.end();
    }

    private static void promises30To32Values() {
        SighGranary x = new SighGranary();
        Check.same("31: at first", x.valueTotal(), 0);
        Check.same("32: at first", x.valueByAccounts(), 0);
        x.addBin(100, 'f');
        x.addBin(100, 'l');
        Check.same("30: an empty bin", x.valueOf(0), 0);
        x.addSack(0, 10, 3, 0);
        x.addSack(1, 20, 4, 0);
        x.addSack(0, 30, 5, 9);
        Check.same("30: bin 0", x.valueOf(0), 180);
        Check.same("30: bin 1", x.valueOf(1), 80);
        Check.fails("30: bin 2", NO_BIN, () -> x.valueOf(2));
        Check.fails("30: bin -1", NO_BIN, () -> x.valueOf(-1));
        both(x, 260);
        x.sell(1, 5);
        both(x, 240);
        x.sift(0, 5);
        both(x, 225);
        x.setMice(0, 6);
        x.passMonths(1);
        both(x, 225 - 5 * 3 - 5);
        x.moveSack(2, 1);
        both(x, 205);
        x.undo();
        x.undo();
        both(x, 225);
    }

    private static void both(SighGranary x, int value) {
        Check.same("31: valueTotal", x.valueTotal(), value);
        Check.same("32: valueByAccounts", x.valueByAccounts(), value);
    }

    private static void promises33And34Loads() {
        SighGranary x = new SighGranary();
        x.addBin(400, 'l');
        load(x, 400, 0);
        x.addSack(0, 20, 6, 0);
        x.addSack(0, 30, 5, 0);
        x.addSack(0, 25, 9, 0);
        x.addSack(0, 5, 30, 0);
        load(x, 0, 0);
        load(x, 4, 0);
        load(x, 5, 150);
        load(x, 25, 270);
        load(x, 29, 270);
        load(x, 30, 375);
        load(x, 49, 375);
        load(x, 50, 495);
        load(x, 55, 495);
        load(x, 60, 525);
        load(x, 79, 525);
        load(x, 80, 645);
        load(x, 400, 645);
        for (int limit : new int[] {-1, 401, Integer.MIN_VALUE, Integer.MAX_VALUE}) {
            Check.fails("33: limit", BAD, () -> x.bestLoad(0, limit));
            Check.fails("34: limit", BAD, () -> x.bestLoadByTrying(0, limit));
            Check.fails("33: no bin first", NO_BIN, () -> x.bestLoad(1, limit));
            Check.fails("34: no bin first", NO_BIN, () -> x.bestLoadByTrying(1, limit));
        }
        Check.fails("33: bin -1", NO_BIN, () -> x.bestLoad(-1, 1));
        Check.fails("34: bin -1", NO_BIN, () -> x.bestLoadByTrying(-1, 1));
    }

    private static void load(SighGranary x, int limit, int value) {
        Check.same("33: bestLoad " + limit, x.bestLoad(0, limit), value);
        Check.same("34: bestLoadByTrying " + limit, x.bestLoadByTrying(0, limit), value);
    }

    private static void promises35And36Splits() {
        SighGranary x = new SighGranary();
        x.addBin(400, 'f');
        x.addBin(400, 'f');
        x.addSack(1, 3, 1, 0);
        split(x, 0);
        int[] weights = {40, 30, 20, 17, 60, 60, 1, 59, 58, 54};
        int[] differences = {40, 10, 10, 7, 7, 7, 6, 5, 3, 1};
        for (int sack = 0; sack < weights.length; sack++) {
            x.addSack(0, weights[sack], 1, 0);
            split(x, differences[sack]);
        }
        Check.fails("35: bin 2", NO_BIN, () -> x.fairestSplit(2));
        Check.fails("36: bin 2", NO_BIN, () -> x.fairestSplitByTrying(2));
        Check.fails("35: bin -1", NO_BIN, () -> x.fairestSplit(-1));
        Check.fails("36: bin -1", NO_BIN, () -> x.fairestSplitByTrying(-1));
    }

    private static void split(SighGranary x, int difference) {
        Check.same("35: fairestSplit", x.fairestSplit(0), difference);
        Check.same("36: fairestSplitByTrying", x.fairestSplitByTrying(0), difference);
    }

    // Each call looks at its own bin, whichever one was asked before.
    private static void promises33To36EachBin() {
        SighGranary x = new SighGranary();
        x.addBin(100, 'f');
        x.addBin(100, 'f');
        x.addSack(0, 10, 3, 0);
        x.addSack(1, 20, 4, 0);
        x.addSack(1, 5, 1, 0);
        Check.same("33: bin 0", x.bestLoad(0, 50), 30);
        Check.same("33: bin 1", x.bestLoad(1, 50), 85);
        Check.same("34: bin 0", x.bestLoadByTrying(0, 50), 30);
        Check.same("34: bin 1", x.bestLoadByTrying(1, 50), 85);
        Check.same("35: bin 0", x.fairestSplit(0), 10);
        Check.same("35: bin 1", x.fairestSplit(1), 15);
        Check.same("36: bin 0", x.fairestSplitByTrying(0), 10);
        Check.same("36: bin 1", x.fairestSplitByTrying(1), 15);
        Check.same("33: bin 0 again", x.bestLoad(0, 50), 30);
        Check.same("36: bin 1 again", x.fairestSplitByTrying(1), 15);
        Check.same("35: bin 0 again", x.fairestSplit(0), 10);
    }

    private static void promises37And38Trades() {
        trades(new int[] {10, 10, 10, 10, 10, 10, 10, 10, 10, 10, 10, 10}, 0, 0, 0, 0, 0, 0);
        trades(new int[] {12, 11, 10, 9, 8, 7, 6, 5, 4, 3, 2, 1}, 0, 0, 0, 0, 0, 0);
        trades(new int[] {1, 2, 3, 4, 5, 6, 7, 8, 9, 10, 11, 12}, 11, 11, 11, 11, 11, 11);
        trades(new int[] {1, 30, 1, 30, 1, 30, 1, 30, 1, 30, 1, 30}, 29, 58, 87, 116, 145, 174);
        trades(new int[] {5, 8, 2, 9, 9, 1, 4, 3, 7, 6, 6, 10}, 9, 16, 19, 20, 21, 21);
        trades(new int[] {30, 10, 10, 10, 10, 10, 10, 10, 10, 10, 10, 11}, 1, 1, 1, 1, 1, 1);
        trades(new int[] {10, 30, 10, 10, 10, 10, 10, 10, 10, 10, 10, 10}, 20, 20, 20, 20, 20, 20);
        SighGranary x = new SighGranary();
        for (int trades : new int[] {0, 7, -1, Integer.MAX_VALUE}) {
            Check.fails("37: trades", BAD, () -> x.bestTrades(trades));
            Check.fails("38: trades", BAD, () -> x.bestTradesByTrying(trades));
        }
    }

    private static void trades(int[] prices, int... profits) {
        SighGranary x = new SighGranary();
        for (int month = 0; month < 12; month++) {
            x.setPrice(month, prices[month]);
        }
        for (int trades = 1; trades <= 6; trades++) {
            Check.same("37: bestTrades " + trades, x.bestTrades(trades), profits[trades - 1]);
            Check.same("38: bestTradesByTrying " + trades, x.bestTradesByTrying(trades), profits[trades - 1]);
        }
    }
}
