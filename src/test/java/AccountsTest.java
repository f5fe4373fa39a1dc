import java.lang.reflect.Field;
import java.util.NoSuchElementException;

/** Promises 39 to 49. */
public final class AccountsTest {
    private static final Class<ArithmeticException> NOTHING = ArithmeticException.class;
    private static final Class<NoSuchElementException> NONE = NoSuchElementException.class;

    public static void main(String[] args) throws ReflectiveOperationException {
        promises39To45Accounts();
        promises46And47Shares();
        promise48BinByValue();
        promise49Consistent();
        promise49Inconsistent();
        Check.end();
    }

    private static void promises39To45Accounts() {
        SighGranary x = new SighGranary();
        accounts(x, 0, 0, 0, 0, 0, 0, 0);
        x.addBin(400, 'f');
        x.addBin(400, 'l');
        x.addSack(0, 50, 12, 0);
        x.addSack(1, 40, 3, 2);
        accounts(x, 90, 0, 0, 0, 90, 0, 0);
        x.sell(0, 10);
        accounts(x, 90, 10, 0, 0, 80, 100, -20);
        x.sift(1, 7);
        accounts(x, 90, 10, 0, 20, 60, 100, -20);
        x.setMice(1, 4);
        x.passMonths(1);
        accounts(x, 90, 10, 4, 20, 56, 100, -20);
        x.sell(1, 16);
        accounts(x, 90, 26, 4, 20, 40, 260, 92);
        x.moveSack(0, 1);
        accounts(x, 90, 26, 4, 20, 40, 260, 92);
    }

    private static void accounts(SighGranary x, int... due) {
        Check.same("39: storedWeight", x.storedWeight(), due[0]);
        Check.same("40: soldWeight", x.soldWeight(), due[1]);
        Check.same("41: eatenWeight", x.eatenWeight(), due[2]);
        Check.same("42: chaffWeight", x.chaffWeight(), due[3]);
        Check.same("43: weightTotal", x.weightTotal(), due[4]);
        Check.same("44: revenue", x.revenue(), due[5]);
        Check.same("45: profit", x.profit(), due[6]);
    }

    private static void promises46And47Shares() {
        SighGranary x = new SighGranary();
        x.addBin(100, 'f');
        Check.fails("46: all bins are empty", NOTHING, x::meanPrice);
        Check.fails("47: no sack was stored", NOTHING, x::lossShare);
        x.addSack(0, 10, 3, 0);
        Check.same("46: one sack", x.meanPrice(), 3.0);
        Check.same("47: no loss", x.lossShare(), 0.0f);
        x.addSack(0, 20, 7, 0);
        Check.same("46: two sacks", x.meanPrice(), 170.0 / 30.0);
        x.setMice(0, 3);
        x.passMonths(1);
        Check.same("47: eaten", x.lossShare(), 3f / 30f);
        x.sift(0, 4);
        Check.same("47: and chaff", x.lossShare(), 13f / 30f);
        Check.same("46: after that", x.meanPrice(), (5 * 3 + 12 * 7) / 17.0);
        x.sell(0, 17);
        Check.fails("46: empty again", NOTHING, x::meanPrice);
        Check.same("47: still", x.lossShare(), 13f / 30f);
    }

    private static void promise48BinByValue() {
        SighGranary x = new SighGranary();
        Check.fails("48: no bins", NONE, () -> x.binByValue(0));
        x.addBin(100, 'f');
        x.addBin(100, 'f');
        x.addBin(100, 'f');
        x.addBin(100, 'f');
        x.addBin(100, 'f');
        byValue(x, "01234");
        x.addSack(1, 10, 6, 0);
        x.addSack(2, 20, 3, 0);
        x.addSack(3, 10, 6, 0);
        x.addSack(4, 1, 30, 0);
        byValue(x, "21340");
        x.addSack(0, 3, 30, 0);
        byValue(x, "02134");
        Check.fails("48: position -1", NONE, () -> x.binByValue(-1));
        Check.fails("48: position 5", NONE, () -> x.binByValue(5));
        Check.fails("48: greatest position", NONE, () -> x.binByValue(Integer.MAX_VALUE));
    }

    private static void byValue(SighGranary x, String due) {
        StringBuilder order = new StringBuilder();
        for (int position = 0; position < x.binCount(); position++) {
            order.append(x.binByValue(position));
        }
        Check.same("48: order", order.toString(), due);
    }

    private static void promise49Consistent() {
        SighGranary x = new SighGranary();
        Check.holds("49: new", x.isConsistent());
        for (int bin = 0; bin < 5; bin++) {
            x.addBin(400 - bin, "flhfl".charAt(bin));
            for (int sack = 0; sack < 10; sack++) {
                x.addSack(bin, 1 + (sack * 17 + bin * 5) % 40, 1 + (sack * 7 + bin) % 30, sack);
                x.setPrice((sack + bin) % 12, 1 + (sack * 11 + bin * 3) % 30);
            }
            x.setMice(bin, 3 * bin);
            x.passMonths(3);
            x.sift(bin, 5);
            x.sell(bin, 60);
            Check.holds("49: full and busy", x.isConsistent());
        }
    }

    // No call can make the data inconsistent, so each of them is falsified from outside, one at a time.
    private static void promise49Inconsistent() throws ReflectiveOperationException {
        for (String name : new String[] {"stored", "sold", "eaten", "chaff", "paid", "costOfSold", "costOfLost"}) {
            SighGranary x = new SighGranary();
            x.addBin(100, 'f');
            x.addSack(0, 30, 3, 0);
            Object accounts = fieldOf(fieldOf(x, "data"), "accounts");
            setField(accounts, name, (int) fieldOf(accounts, name) + 1);
            Check.holds("49: a false " + name, !x.isConsistent());
        }
    }

    private static void setField(Object object, String name, int value) throws ReflectiveOperationException {
        Field field = object.getClass().getDeclaredField(name);
        field.setAccessible(true);
        field.setInt(object, value);
    }

    private static Object fieldOf(Object object, String name) throws ReflectiveOperationException {
        Field field = object.getClass().getDeclaredField(name);
        field.setAccessible(true);
        return field.get(object);
    }
}
