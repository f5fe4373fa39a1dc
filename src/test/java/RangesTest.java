import java.util.LinkedHashMap;
import java.util.Map;
import java.util.function.IntUnaryOperator;
import java.util.function.Supplier;

/** Each argument's range: all its values within the bounds, and those just and far outside of them. */
public final class RangesTest {
    private interface Call {
        int of(SighGranary granary, int value);
    }

    private static final String BAD = "IllegalArgumentException";
    private static final String NO_BIN = "IndexOutOfBoundsException";
    private static final String NONE = "NoSuchElementException";

    public static void main(String[] args) {
        capacities();
        methods();
        sackValues();
        miceAndTraps();
        months();
        meshes();
        kilograms();
        prices();
        limits();
        trades();
        characters();
        bins();
        sacks();
        positions();
        valuePositions();
        outputIndices();
        Check.end();
    }

    private static SighGranary withBin() {
        SighGranary x = new SighGranary();
        x.addBin(400, 'f');
        return x;
    }

    private static SighGranary withFullBin() {
        SighGranary x = withBin();
        for (int sack = 0; sack < 10; sack++) {
            x.addSack(0, 40, 2, 0);
        }
        return x;
    }

    private static int[] outside(int least, int most) {
        return new int[] {least - 1, most + 1, least - 65536, most + 65536, Integer.MIN_VALUE, Integer.MAX_VALUE};
    }

    private static void range(String what, int least, int most, Supplier<SighGranary> maker, Call call,
            IntUnaryOperator due) {
        for (int value = least; value <= most; value++) {
            int inside = value;
            Check.same(what + " " + value, Sight.answer(() -> call.of(maker.get(), inside)),
                    Integer.toString(due.applyAsInt(value)));
        }
        refused(what, BAD, maker, call, outside(least, most));
    }

    private static void refused(String what, String due, Supplier<SighGranary> maker, Call call, int... values) {
        for (int value : values) {
            Check.same(what + " " + value, Sight.answer(() -> call.of(maker.get(), value)), due);
        }
    }

    // 2: "the capacity in kilograms, 20 to 400"
    private static void capacities() {
        range("2: capacity", 20, 400, SighGranary::new, (x, value) -> {
            x.addBin(value, 'f');
            return x.capacityOf(0);
        }, value -> value);
    }

    // 2 and 3: "the method, 'f' for first, 'l' for last, 'h' for heaviest"
    private static void methods() {
        SighGranary x = withBin();
        for (int code = 0; code <= Character.MAX_VALUE; code++) {
            char method = (char) code;
            boolean right = method == 'f' || method == 'l' || method == 'h';
            char before = x.methodOf(0);
            Check.same("3: method " + code, Sight.answer(() -> x.setMethod(0, method)),
                    right ? Integer.toString(before) : BAD);
            Check.same("3: methodOf after " + code, x.methodOf(0), right ? method : before);
            if (right) {
                SighGranary y = new SighGranary();
                Check.same("2: method " + code, y.addBin(20, method), 0);
                Check.same("2: methodOf after " + code, y.methodOf(0), method);
            } else {
                Check.same("2: method " + code, Sight.answer(() -> x.addBin(20, method)), BAD);
            }
        }
        Check.same("2: no bin by a wrong method", x.binCount(), 1);
    }

    // 4: "1 to 60", "1 to 30", "0 to 9"
    private static void sackValues() {
        range("4: weight", 1, 60, RangesTest::withBin,
                (x, value) -> x.weightOf(x.addSack(0, value, 1, 0)), value -> value);
        range("4: price", 1, 30, RangesTest::withBin,
                (x, value) -> x.priceOf(x.addSack(0, 1, value, 0)), value -> value);
        range("4: grade", 0, 9, RangesTest::withBin,
                (x, value) -> x.gradeOf(x.addSack(0, 1, 1, value)), value -> value);
    }

    // 17: "the number of mice, 0 to 20"; 18: "the number of traps, 0 to 9"
    private static void miceAndTraps() {
        range("17: mice", 0, 20, RangesTest::withBin, (x, value) -> {
            x.setMice(0, value);
            return x.miceIn(0);
        }, value -> value);
        range("18: traps", 0, 9, RangesTest::withBin, (x, value) -> {
            x.setTraps(0, value);
            return x.trapsIn(0);
        }, value -> value);
    }

    // Of two mice the trap catches one; the other eats a kilogram, and they are two again.
    private static SighGranary eatenByOne() {
        SighGranary x = withFullBin();
        x.setMice(0, 2);
        x.setTraps(0, 1);
        return x;
    }

    // 19: "the number of months, 1 to 24"; 23: "the number of months, 0 to 60"
    private static void months() {
        range("19: months", 1, 24, RangesTest::eatenByOne, SighGranary::passMonths, value -> value);
        range("19: months of a granary without bins", 1, 24, SighGranary::new, (x, value) -> {
            x.passMonths(value);
            return x.month();
        }, value -> value);
        range("23: months", 0, 60, RangesTest::eatenByOne, (x, value) -> x.eatenWithin(0, value), value -> value);
    }

    // 25: "the mesh, 1 to 9"
    private static void meshes() {
        range("25: mesh", 1, 9, RangesTest::withFullBin, (x, value) -> x.sift(0, value), value -> 40 * value);
    }

    // 26 and 29: "the number of kilograms, 1 to 400"
    private static void kilograms() {
        range("26: kilograms", 1, 400, RangesTest::withFullBin, (x, value) -> x.sell(0, value), value -> 10 * value);
        range("29: kilograms", 1, 400, RangesTest::withFullBin, (x, value) -> x.costOf(0, value), value -> 2 * value);
    }

    // 27 and 28: "the month of the year, 0 to 11", "the new price, 1 to 30"
    private static void prices() {
        range("27: month", 0, 11, SighGranary::new, (x, value) -> {
            x.setPrice(value, 7);
            return x.priceIn(value);
        }, value -> 7);
        range("27: price", 1, 30, SighGranary::new, (x, value) -> {
            x.setPrice(3, value);
            return x.priceIn(3);
        }, value -> value);
        range("28: month", 0, 11, SighGranary::new, SighGranary::priceIn, value -> 10);
    }

    // 33 and 34: "the limit in kilograms, 0 to 400"
    private static void limits() {
        range("33: limit", 0, 400, RangesTest::withFullBin, (x, value) -> x.bestLoad(0, value),
                value -> value / 40 * 80);
        range("34: limit", 0, 400, RangesTest::withFullBin, (x, value) -> x.bestLoadByTrying(0, value),
                value -> value / 40 * 80);
    }

    private static SighGranary withSixRises() {
        SighGranary x = new SighGranary();
        for (int month = 0; month < 12; month++) {
            x.setPrice(month, month % 2 == 0 ? 1 : 30);
        }
        return x;
    }

    // 37 and 38: "the greatest number of trades, 1 to 6"
    private static void trades() {
        range("37: trades", 1, 6, RangesTest::withSixRises, SighGranary::bestTrades, value -> 29 * value);
        range("38: trades", 1, 6, RangesTest::withSixRises, SighGranary::bestTradesByTrying, value -> 29 * value);
    }

    // 53: "the character, with a code from 32 to 126"
    private static void characters() {
        SighGranary x = new SighGranary();
        for (int code = 0; code <= Character.MAX_VALUE; code++) {
            char character = (char) code;
            if (code >= 32 && code <= 126) {
                Check.same("53: code " + code, new SighGranary().appendInput(character), 1);
            } else {
                Check.same("53: code " + code, Sight.answer(() -> x.appendInput(character)), BAD);
            }
        }
        Check.same("53: none of the wrong ones was appended", x.appendInput('a'), 1);
    }

    private static Map<String, Call> callsOfBins() {
        Map<String, Call> calls = new LinkedHashMap<>();
        calls.put("3: setMethod", (x, bin) -> x.setMethod(bin, 'l'));
        calls.put("4: addSack", (x, bin) -> x.addSack(bin, 1, 1, 1));
        calls.put("7: capacityOf", SighGranary::capacityOf);
        calls.put("8: methodOf", SighGranary::methodOf);
        calls.put("9: sackCount", SighGranary::sackCount);
        calls.put("10: sackAt", (x, bin) -> x.sackAt(bin, 0));
        calls.put("11: weightIn", SighGranary::weightIn);
        calls.put("17: setMice", (x, bin) -> x.setMice(bin, 1));
        calls.put("18: setTraps", (x, bin) -> x.setTraps(bin, 1));
        calls.put("20: miceIn", SighGranary::miceIn);
        calls.put("21: trapsIn", SighGranary::trapsIn);
        calls.put("23: eatenWithin", (x, bin) -> x.eatenWithin(bin, 1));
        calls.put("24: monthsUntilEmpty", SighGranary::monthsUntilEmpty);
        calls.put("25: sift", (x, bin) -> x.sift(bin, 1));
        calls.put("26: sell", (x, bin) -> x.sell(bin, 1));
        calls.put("29: costOf", (x, bin) -> x.costOf(bin, 1));
        calls.put("30: valueOf", SighGranary::valueOf);
        calls.put("33: bestLoad", (x, bin) -> x.bestLoad(bin, 1));
        calls.put("34: bestLoadByTrying", (x, bin) -> x.bestLoadByTrying(bin, 1));
        calls.put("35: fairestSplit", SighGranary::fairestSplit);
        calls.put("36: fairestSplitByTrying", SighGranary::fairestSplitByTrying);
        calls.put("50: writeBin", SighGranary::writeBin);
        return calls;
    }

    private static SighGranary withBins(int bins) {
        SighGranary x = new SighGranary();
        for (int bin = 0; bin < bins; bin++) {
            x.addBin(20, 'f');
        }
        return x;
    }

    // "if there is no such bin", with none to five bins
    private static void bins() {
        for (int bins = 0; bins <= 5; bins++) {
            int count = bins;
            for (Map.Entry<String, Call> call : callsOfBins().entrySet()) {
                refused(call.getKey() + ", one of " + bins, NO_BIN, () -> withBins(count), call.getValue(),
                        outside(0, bins - 1));
                for (int bin = 0; bin < bins; bin++) {
                    int one = bin;
                    String answer = Sight.answer(() -> call.getValue().of(withBins(count), one));
                    Check.holds(call.getKey() + " of bin " + bin + ", one of " + bins, !answer.equals(NO_BIN));
                }
            }
        }
        refused("5: moveSack to bin", NO_BIN, RangesTest::withSacks, (x, bin) -> x.moveSack(0, bin), outside(0, 1));
        Check.same("5: moveSack to bin 1", withSacks().moveSack(0, 1), 12);
    }

    /** The sacks 0 and 2; sack 1 has been sold. */
    private static SighGranary withSacks() {
        SighGranary x = withBins(2);
        x.addSack(0, 5, 3, 2);
        x.addSack(1, 6, 3, 2);
        x.sell(1, 6);
        x.addSack(1, 7, 3, 2);
        return x;
    }

    // "if there is no sack with this id": an id that was never given, or whose sack has disappeared
    private static void sacks() {
        Map<String, Call> calls = new LinkedHashMap<>();
        calls.put("5: moveSack", (x, sack) -> x.moveSack(sack, sack == 0 ? 1 : 0));
        calls.put("12: weightOf", SighGranary::weightOf);
        calls.put("13: priceOf", SighGranary::priceOf);
        calls.put("14: gradeOf", SighGranary::gradeOf);
        calls.put("15: storedIn", SighGranary::storedIn);
        calls.put("16: binOf", SighGranary::binOf);
        calls.put("51: writeSack", SighGranary::writeSack);
        for (Map.Entry<String, Call> call : calls.entrySet()) {
            refused(call.getKey() + " of sack", NONE, RangesTest::withSacks, call.getValue(), outside(0, 2));
            refused(call.getKey() + " of a sack that was sold,", NONE, RangesTest::withSacks, call.getValue(), 1);
            refused(call.getKey() + " of no sack at all,", NONE, SighGranary::new, call.getValue(), 0);
            for (int sack = 0; sack <= 2; sack += 2) {
                int one = sack;
                String answer = Sight.answer(() -> call.getValue().of(withSacks(), one));
                Check.holds(call.getKey() + " of sack " + sack, !answer.equals(NONE));
            }
        }
    }

    // 10: "if there is no such position", with none to ten sacks
    private static void positions() {
        for (int sacks = 0; sacks <= 10; sacks++) {
            SighGranary x = withBin();
            for (int sack = 0; sack < sacks; sack++) {
                x.addSack(0, 1, 1, 0);
            }
            refused("10: one of " + sacks + ", position", NONE, () -> x, (y, position) -> y.sackAt(0, position),
                    outside(0, sacks - 1));
            for (int position = 0; position < sacks; position++) {
                Check.same("10: one of " + sacks + ", position " + position, x.sackAt(0, position), position);
            }
        }
    }

    // 48: "if there is no such position", with none to five bins
    private static void valuePositions() {
        for (int bins = 0; bins <= 5; bins++) {
            SighGranary x = withBins(bins);
            refused("48: one of " + bins + ", position", NONE, () -> x, SighGranary::binByValue, outside(0, bins - 1));
            for (int position = 0; position < bins; position++) {
                Check.same("48: one of " + bins + ", position " + position, x.binByValue(position), position);
            }
        }
    }

    // 52: "if there is no character at this index"
    private static void outputIndices() {
        refused("52: no output, index", NO_BIN, SighGranary::new, SighGranary::outputAt, outside(0, -1));
        SighGranary x = withBins(1);
        x.setMice(0, 12);
        x.setTraps(0, 3);
        int longer = x.writeBin(0);
        Check.same("52: the longer text", Check.outputOf(x, longer), "f0/20m12t3");
        refused("52: index", NO_BIN, () -> x, SighGranary::outputAt, outside(0, longer - 1));
        x.setMice(0, 0);
        int shorter = x.writeBin(0);
        Check.same("52: the shorter text in its place", Check.outputOf(x, shorter), "f0/20t3");
        refused("52: index", NO_BIN, () -> x, SighGranary::outputAt, outside(0, shorter - 1));
    }
}
