import java.util.NoSuchElementException;

/** Promises 25 to 29. */
public final class SiftingAndSellingTest {
    private static final Class<IndexOutOfBoundsException> NO_BIN = IndexOutOfBoundsException.class;
    private static final Class<IllegalArgumentException> BAD = IllegalArgumentException.class;
    private static final Class<NoSuchElementException> NONE = NoSuchElementException.class;

    public static void main(String[] args) {
        promise25Sift();
        promise26Sell();
        promise26Orders();
        promises27And28Prices();
        promise29CostOf();
        Check.end();
    }

    private static void promise25Sift() {
        SighGranary x = new SighGranary();
        Check.fails("25: no bin ahead of a bad mesh", NO_BIN, () -> x.sift(0, 0));
        x.addBin(400, 'f');
        x.addBin(400, 'f');
        x.addSack(0, 25, 2, 3);
        x.addSack(0, 39, 3, 5);
        x.addSack(0, 60, 4, 7);
        x.addSack(1, 60, 5, 0);
        x.addSack(0, 1, 6, 0);
        Check.fails("25: mesh 0", BAD, () -> x.sift(0, 0));
        Check.fails("25: mesh 10", BAD, () -> x.sift(0, 10));
        Check.fails("25: bin 2", NO_BIN, () -> x.sift(2, 1));
        Check.fails("25: bin -1", NO_BIN, () -> x.sift(-1, 1));
        Check.same("25: 25*3/10 and 39*1/10", x.sift(0, 6), 7 + 3);
        Check.same("25: sack 0 weighs", x.weightOf(0), 18);
        Check.same("25: sack 0 has the grade", x.gradeOf(0), 6);
        Check.same("25: sack 1 weighs", x.weightOf(1), 36);
        Check.same("25: sack 2 keeps its grade", x.gradeOf(2), 7);
        Check.same("25: sack 2 keeps its weight", x.weightOf(2), 60);
        Check.same("25: the other bin keeps its weight", x.weightOf(3), 60);
        Check.same("25: the other bin keeps its grade", x.gradeOf(3), 0);
        Check.same("25: a sack that loses nothing gets the grade", x.gradeOf(4), 6);
        Check.same("25: it weighs", x.weightOf(4), 1);
        Check.same("25: the same mesh again", x.sift(0, 6), 0);
        Check.same("25: the greatest mesh", x.sift(1, 9), 54);
        Check.same("25: chaff so far", x.chaffWeight(), 64);
        Check.same("25: the value", x.valueByAccounts(), 18 * 2 + 36 * 3 + 60 * 4 + 6 * 5 + 6);
    }

    private static void promise26Sell() {
        SighGranary x = new SighGranary();
        Check.fails("26: no bin ahead of bad kilograms", NO_BIN, () -> x.sell(0, 0));
        x.addBin(400, 'f');
        Check.fails("26: kilograms 0", BAD, () -> x.sell(0, 0));
        Check.fails("26: kilograms 401", BAD, () -> x.sell(0, 401));
        Check.rejects("26: an empty bin", x, SighGranary.TOO_LITTLE, 0, () -> x.sell(0, 1));
        x.addSack(0, 20, 3, 0);
        x.setPrice(0, 7);
        x.setPrice(1, 11);
        Check.same("26: in month 0", x.sell(0, 5), 35);
        x.passMonths(13);
        Check.same("26: in month 13", x.sell(0, 5), 55);
        Check.rejects("26: too little", x, SighGranary.TOO_LITTLE, 10, () -> x.sell(0, 11));
        Check.same("26: nothing was sold", x.weightOf(0), 10);
        Check.same("26: all", x.sell(0, 10), 110);
        Check.same("26: no sack left", x.sackCount(0), 0);
        Check.fails("26: bin 1", NO_BIN, () -> x.sell(1, 1));
        Check.fails("26: bin -1", NO_BIN, () -> x.sell(-1, 1));
        Check.same("26: sold", x.soldWeight(), 20);
        Check.same("26: profit", x.profit(), 200 - 60);
    }

    private static SighGranary sacksOf(char method, int... weights) {
        SighGranary x = new SighGranary();
        x.addBin(400, method);
        for (int weight : weights) {
            x.addSack(0, weight, 1 + x.sackCount(0), 0);
        }
        return x;
    }

    private static String leftIn(SighGranary x) {
        return Check.outputOf(x, x.writeBin(0));
    }

    private static void promise26Orders() {
        SighGranary first = sacksOf('f', 10, 20, 30);
        first.sell(0, 15);
        Check.same("26: first", leftIn(first), "f45/400 1 2");
        Check.same("26: first leaves", first.weightOf(1), 15);
        SighGranary last = sacksOf('l', 10, 20, 30);
        last.sell(0, 35);
        Check.same("26: last", leftIn(last), "l25/400 1 0");
        Check.same("26: last leaves", last.weightOf(1), 15);
        SighGranary heaviest = sacksOf('h', 20, 30, 20, 30);
        heaviest.sell(0, 45);
        Check.same("26: the order is that of the beginning", leftIn(heaviest), "h55/400 0 2 3");
        Check.same("26: heaviest leaves", heaviest.weightOf(3), 15);
        SighGranary exact = sacksOf('f', 10, 20, 30);
        exact.sell(0, 30);
        Check.same("26: whole sacks", leftIn(exact), "f30/400 2");
    }

    private static void promises27And28Prices() {
        SighGranary x = new SighGranary();
        Check.same("27: 10 before", x.setPrice(0, 1), 10);
        Check.same("27: 1 before", x.setPrice(0, 30), 1);
        Check.same("27: month 11", x.setPrice(11, 4), 10);
        Check.same("28: month 0", x.priceIn(0), 30);
        Check.same("28: month 5", x.priceIn(5), 10);
        Check.same("28: month 11", x.priceIn(11), 4);
        Check.fails("27: month 12", BAD, () -> x.setPrice(12, 1));
        Check.fails("27: month -1", BAD, () -> x.setPrice(-1, 1));
        Check.fails("27: price 0", BAD, () -> x.setPrice(0, 0));
        Check.fails("27: price 31", BAD, () -> x.setPrice(0, 31));
        Check.fails("28: month 12", BAD, () -> x.priceIn(12));
        Check.fails("28: month -1", BAD, () -> x.priceIn(-1));
        Check.same("27: unchanged", x.priceIn(0), 30);
    }

    private static void promise29CostOf() {
        SighGranary x = sacksOf('h', 10, 30, 20);
        Check.same("29: a part of the heaviest", x.costOf(0, 7), 14);
        Check.same("29: the heaviest", x.costOf(0, 30), 60);
        Check.same("29: and a part of the next", x.costOf(0, 31), 63);
        Check.same("29: all", x.costOf(0, 60), 60 + 60 + 10);
        Check.fails("29: more than all", NONE, () -> x.costOf(0, 61));
        Check.fails("29: and no rejection", NONE, x::rejectionReason);
        Check.fails("29: kilograms 0", BAD, () -> x.costOf(0, 0));
        Check.fails("29: bad kilograms ahead of too little", BAD, () -> x.costOf(0, 401));
        Check.fails("29: no bin ahead of bad kilograms", NO_BIN, () -> x.costOf(1, 0));
        Check.fails("29: bin -1", NO_BIN, () -> x.costOf(-1, 1));
        x.setMethod(0, 'l');
        Check.same("29: the last", x.costOf(0, 20), 60);
        x.setMethod(0, 'f');
        Check.same("29: the first", x.costOf(0, 20), 30);
        Check.same("29: nothing has changed", x.weightIn(0), 60);
    }
}
