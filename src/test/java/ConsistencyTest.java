import java.io.IOException;
import java.lang.reflect.Constructor;
import java.lang.reflect.Method;
import java.nio.file.Files;
import java.nio.file.Path;
import java.util.regex.Pattern;

/**
 * Promise 49, "both ways [..] agree": no data makes the two ways to find a plan differ, so that it is seen in copies of
 * the class in which one way answers 1 too much now and then.
 */
public final class ConsistencyTest implements AutoCloseable {
    private final Compiled copy;
    private final Constructor<?> maker;
    private Object granary;

    /** Compiles a copy in which a method answers 1 too much when something is true of its arguments and fields. */
    private ConsistencyTest(String method, String parameters, String arguments, String when)
            throws IOException, InterruptedException, ReflectiveOperationException {
        String head = "int " + method + "(" + parameters + ") {";
        String text = Files.readString(Path.of("src/main/java/SighGranary.java"));
        Check.same("pieces of the class around " + head, text.split(Pattern.quote(head), -1).length, 2);
        String spoiled = head + " return right(" + arguments + ") + (" + when + " ? 1 : 0); } int right(" + parameters
                + ") {";
        copy = new Compiled("SighGranary", text.replace(head, spoiled), null);
        maker = copy.type.getConstructor();
        granary = maker.newInstance();
    }

    public static void main(String[] args) throws IOException, InterruptedException, ReflectiveOperationException {
        loads();
        splits();
        trades();
        Check.end();
    }

    // "for all bins, both ways to find the best load agree for a limit of half the capacity, rounded down"
    private static void loads() throws IOException, InterruptedException, ReflectiveOperationException {
        String when = "limit == 21 && count == 3";
        try (ConsistencyTest x = new ConsistencyTest("loadByTable", "int limit", "limit", when)) {
            for (int bin = 0; bin < 5; bin++) {
                for (int capacity = 41; capacity <= 44; capacity++) {
                    x.fill(bin, capacity, 3);
                    x.consistent("loads, bin " + bin + ", capacity " + capacity, capacity / 2 != 21);
                }
                x.fill(bin, 42, 4);
                x.consistent("loads, bin " + bin + ", four sacks", true);
            }
        }
    }

    // "for all bins, [..] both ways to find the fairest split agree"
    private static void splits() throws IOException, InterruptedException, ReflectiveOperationException {
        try (ConsistencyTest x = new ConsistencyTest("splitByTable", "", "", "count == 3")) {
            for (int bin = 0; bin < 5; bin++) {
                for (int sacks = 0; sacks <= 10; sacks++) {
                    x.fill(bin, 100, sacks);
                    x.consistent("splits, bin " + bin + ", sacks " + sacks, sacks != 3);
                }
            }
        }
    }

    // "both ways to find the best trades agree for all numbers of trades"
    private static void trades() throws IOException, InterruptedException, ReflectiveOperationException {
        String parameters = "int[] prices, int trades";
        String when = "trades == prices[0]";
        try (ConsistencyTest x = new ConsistencyTest("tradesByTable", parameters, "prices, trades", when)) {
            for (int number = 1; number <= 30; number++) {
                x.call("setPrice", 0, number);
                x.consistent("trades, number " + number, number > 6);
            }
        }
    }

    /** Five bins with one sack each but for one bin, which has some other number of sacks. */
    private void fill(int chosen, int capacity, int sacks) throws ReflectiveOperationException {
        granary = maker.newInstance();
        for (int bin = 0; bin < 5; bin++) {
            call("addBin", bin == chosen ? capacity : 42, 'f');
            for (int sack = 0; sack < (bin == chosen ? sacks : 1); sack++) {
                call("addSack", bin, 3 + sack, 1 + sack, 0);
            }
        }
    }

    private void consistent(String what, boolean due) throws ReflectiveOperationException {
        Check.same("49: " + what, call("isConsistent").toString(), Boolean.toString(due));
    }

    private Object call(String name, Object... arguments) throws ReflectiveOperationException {
        for (Method method : copy.type.getMethods()) {
            if (method.getName().equals(name)) {
                return method.invoke(granary, arguments);
            }
        }
        throw new NoSuchMethodException(name);
    }

    @Override
    public void close() throws IOException {
        copy.close();
    }
}
