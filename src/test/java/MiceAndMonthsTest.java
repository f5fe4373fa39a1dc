import java.util.NoSuchElementException;

/** Promises 17 to 24. */
public final class MiceAndMonthsTest {
    private static final Class<IndexOutOfBoundsException> NO_BIN = IndexOutOfBoundsException.class;
    private static final Class<IllegalArgumentException> BAD = IllegalArgumentException.class;
    private static final Class<NoSuchElementException> NONE = NoSuchElementException.class;

    public static void main(String[] args) {
        promises17And20Mice();
        promises18And21Traps();
        promise19Growth();
        promise19TrapsAndHunger();
        promise19OrderOfEating();
        promise19AllBins();
        promise22Month();
        promise23EatenWithin();
        promise24MonthsUntilEmpty();
        Check.end();
    }

    private static SighGranary granaryWith(int weight) {
        SighGranary x = new SighGranary();
        x.addBin(400, 'f');
        for (int left = weight; left > 0; left -= 40) {
            x.addSack(0, Math.min(left, 40), 2, 0);
        }
        return x;
    }

    private static void promises17And20Mice() {
        SighGranary x = granaryWith(10);
        Check.same("17: none before", x.setMice(0, 20), 0);
        Check.same("20: miceIn", x.miceIn(0), 20);
        Check.same("17: 20 before", x.setMice(0, 0), 20);
        Check.fails("17: mice -1", BAD, () -> x.setMice(0, -1));
        Check.fails("17: mice 21", BAD, () -> x.setMice(0, 21));
        Check.fails("17: no bin ahead of bad mice", NO_BIN, () -> x.setMice(1, 21));
        Check.fails("17: bin -1", NO_BIN, () -> x.setMice(-1, 0));
        Check.fails("20: bin 1", NO_BIN, () -> x.miceIn(1));
        Check.fails("20: bin -1", NO_BIN, () -> x.miceIn(-1));
    }

    private static void promises18And21Traps() {
        SighGranary x = granaryWith(10);
        Check.same("18: none before", x.setTraps(0, 9), 0);
        Check.same("21: trapsIn", x.trapsIn(0), 9);
        Check.same("18: 9 before", x.setTraps(0, 0), 9);
        Check.fails("18: traps -1", BAD, () -> x.setTraps(0, -1));
        Check.fails("18: traps 10", BAD, () -> x.setTraps(0, 10));
        Check.fails("18: no bin ahead of bad traps", NO_BIN, () -> x.setTraps(1, 10));
        Check.fails("18: bin -1", NO_BIN, () -> x.setTraps(-1, 0));
        Check.fails("21: bin 1", NO_BIN, () -> x.trapsIn(1));
        Check.fails("21: bin -1", NO_BIN, () -> x.trapsIn(-1));
    }

    private static void promise19Growth() {
        SighGranary x = granaryWith(200);
        x.setMice(0, 1);
        int[] miceAfter = {2, 3, 5, 8, 12, 18, 20, 20};
        int[] eaten = {1, 2, 3, 5, 8, 12, 18, 20};
        for (int month = 0; month < miceAfter.length; month++) {
            Check.same("19: eaten", x.passMonths(1), eaten[month]);
            Check.same("19: mice after it", x.miceIn(0), miceAfter[month]);
        }
        Check.fails("19: months 0", BAD, () -> x.passMonths(0));
        Check.fails("19: months 25", BAD, () -> x.passMonths(25));
        Check.fails("19: months -1", BAD, () -> x.passMonths(-1));
        Check.same("19: nothing passed", x.month(), 8);
    }

    private static void promise19TrapsAndHunger() {
        SighGranary x = granaryWith(10);
        x.setMice(0, 7);
        x.setTraps(0, 4);
        Check.same("19: 3 of 7 mice are left", x.passMonths(1), 3);
        Check.same("19: and become 5", x.miceIn(0), 5);
        Check.same("19: 1 of 5", x.passMonths(1), 1);
        Check.same("19: becomes 2", x.miceIn(0), 2);
        Check.same("19: all are caught", x.passMonths(1), 0);
        Check.same("19: none is left", x.miceIn(0), 0);
        x.setTraps(0, 0);
        x.setMice(0, 9);
        Check.same("19: 6 kilograms for 9 mice", x.passMonths(1), 6);
        Check.same("19: as many mice as kilograms", x.miceIn(0), 6);
        Check.same("19: nothing is left", x.passMonths(1), 0);
        Check.same("19: no mice either", x.miceIn(0), 0);
        SighGranary y = granaryWith(6);
        y.setMice(0, 6);
        Check.same("19: just enough", y.passMonths(1), 6);
        Check.same("19: all have eaten", y.miceIn(0), 9);
    }

    private static void promise19OrderOfEating() {
        for (char method : new char[] {'f', 'l', 'h'}) {
            SighGranary x = new SighGranary();
            x.addBin(100, method);
            x.addSack(0, 4, 5, 0);
            x.addSack(0, 9, 7, 0);
            x.addSack(0, 30, 3, 0);
            x.setMice(0, 10);
            x.passMonths(1);
            Check.fails("19: sack 0 is eaten", NONE, () -> x.weightOf(0));
            Check.same("19: sack 1", x.weightOf(1), 3);
            Check.same("19: sack 2", x.weightOf(2), 30);
            Check.same("19: their value", x.valueByAccounts(), 111);
        }
    }

    private static void promise19AllBins() {
        SighGranary x = granaryWith(50);
        x.addBin(100, 'l');
        x.addSack(1, 50, 1, 0);
        x.setMice(0, 2);
        x.setMice(1, 20);
        Check.same("19: both bins, two months", x.passMonths(2), 2 + 3 + 20 + 20);
        Check.same("19: eaten so far", x.eatenWeight(), 45);
        Check.same("19: bin 0", x.weightIn(0), 45);
        Check.same("19: bin 1", x.weightIn(1), 10);
    }

    private static void promise22Month() {
        SighGranary x = new SighGranary();
        Check.same("22: at first", x.month(), 0);
        x.passMonths(24);
        Check.same("22: 24", x.month(), 24);
        x.passMonths(1);
        Check.same("22: 25", x.month(), 25);
    }

    private static void promise23EatenWithin() {
        SighGranary x = granaryWith(200);
        Check.same("23: no mice", x.eatenWithin(0, 60), 0);
        x.setMice(0, 5);
        x.setTraps(0, 1);
        for (int months = 1; months <= 24; months++) {
            int forecast = x.eatenWithin(0, months);
            Check.same("23: as it comes", forecast, x.passMonths(months));
            x.undo();
        }
        Check.same("23: months 0", x.eatenWithin(0, 0), 0);
        Check.same("23: all", x.eatenWithin(0, 60), 200);
        Check.same("23: nothing has changed", x.weightIn(0), 200);
        Check.same("23: nor the mice", x.miceIn(0), 5);
        Check.fails("23: months -1", BAD, () -> x.eatenWithin(0, -1));
        Check.fails("23: months 61", BAD, () -> x.eatenWithin(0, 61));
        Check.fails("23: no bin ahead of bad months", NO_BIN, () -> x.eatenWithin(1, 61));
        Check.fails("23: bin -1", NO_BIN, () -> x.eatenWithin(-1, 1));
    }

    private static void promise24MonthsUntilEmpty() {
        SighGranary x = granaryWith(0);
        Check.same("24: empty now", x.monthsUntilEmpty(0), 0);
        Check.fails("24: bin 1", NO_BIN, () -> x.monthsUntilEmpty(1));
        Check.fails("24: bin -1", NO_BIN, () -> x.monthsUntilEmpty(-1));
        SighGranary y = granaryWith(61);
        Check.fails("24: no mice", NONE, () -> y.monthsUntilEmpty(0));
        // Two mice and a trap: one mouse eats a kilogram a month and becomes two again.
        y.setMice(0, 2);
        y.setTraps(0, 1);
        Check.fails("24: 61 months", NONE, () -> y.monthsUntilEmpty(0));
        y.sell(0, 1);
        Check.same("24: 60 months", y.monthsUntilEmpty(0), 60);
        y.sell(0, 59);
        Check.same("24: one month", y.monthsUntilEmpty(0), 1);
        Check.same("24: nothing has passed", y.month(), 0);
    }
}
