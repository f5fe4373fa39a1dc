import java.util.function.IntSupplier;
import java.util.function.Supplier;

/**
 * Refused calls: "A call that throws an exception changes nothing, except where this is stated"; "A rejected call
 * changes nothing but the latest rejection"; "If several exceptions of a method apply, the one that is listed first is
 * thrown"; "A call is rejected for the first reason that applies, in the order in which its method names them".
 */
public final class RefusedCallsTest {
    private interface Call {
        int of(SighGranary granary);
    }

    private static final String BAD = "IllegalArgumentException";
    private static final String STATE = "IllegalStateException";
    private static final String NO_BIN = "IndexOutOfBoundsException";
    private static final String NONE = "NoSuchElementException";
    private static final String NOTHING = "ArithmeticException";
    private static final String REJECTED = "UnsupportedOperationException";

    public static void main(String[] args) {
        exceptionsOfNewObject();
        exceptionsOfBins();
        exceptionsOfSacks();
        exceptionsOfValues();
        firstOfSeveralExceptions();
        rejections();
        firstOfSeveralReasons();
        exceptionsOfExecute();
        rejectionsOfExecute();
        firstOfSeveralFailures();
        fullInput();
        queriesChangeNothing();
        Check.end();
    }

    /** Five bins: with room, with room for 5, with ten sacks, and two empty ones; and four changes to undo. */
    private static SighGranary busy() {
        SighGranary x = new SighGranary();
        x.addBin(100, 'h');
        x.addBin(20, 'l');
        x.addBin(400, 'f');
        x.addBin(20, 'f');
        x.addBin(30, 'h');
        x.addSack(0, 30, 5, 2);
        x.addSack(0, 25, 7, 1);
        x.addSack(1, 15, 3, 0);
        for (int sack = 3; sack < 13; sack++) {
            x.addSack(2, 4, 2, 9);
        }
        x.setMice(0, 6);
        x.setTraps(0, 2);
        x.setPrice(1, 13);
        x.saveSnapshot();
        x.restoreSnapshot();
        x.passMonths(1);
        x.sell(0, 3);
        x.sift(0, 4);
        x.setMice(2, 1);
        Check.failsOnce("setup", UnsupportedOperationException.class, () -> x.sell(1, 16));
        Check.type(x, "bin 1");
        Check.failsOnce("setup", IllegalArgumentException.class, x::execute);
        x.writeSack(0);
        return x;
    }

    private static SighGranary busyWithInput() {
        SighGranary x = busy();
        Check.type(x, "price 3 1");
        return x;
    }

    private static void unchanged(String what, String due, Supplier<SighGranary> maker, Call call) {
        SighGranary refused = maker.get();
        Check.same(what, Sight.answer(() -> call.of(refused)), due);
        SighGranary untouched = maker.get();
        Check.same(what + ": latest rejection", Sight.ofRejection(refused), Sight.ofRejection(untouched));
        Check.same(what + ": all else", Sight.ofRest(refused), Sight.ofRest(untouched));
    }

    private static void refused(String what, String due, Call call) {
        unchanged(what, due, RefusedCallsTest::busyWithInput, call);
    }

    private static void exceptionsOfNewObject() {
        Supplier<SighGranary> maker = SighGranary::new;
        unchanged("59: undo of nothing", STATE, maker, SighGranary::undo);
        unchanged("61: restoreSnapshot without one", STATE, maker, SighGranary::restoreSnapshot);
        unchanged("55: syntaxErrorOffset without one", NONE, maker, SighGranary::syntaxErrorOffset);
        unchanged("56: rejectionReason without one", NONE, maker, SighGranary::rejectionReason);
        unchanged("57: rejectionDetail without one", NONE, maker, SighGranary::rejectionDetail);
        unchanged("58: causeReason without one", NONE, maker, SighGranary::causeReason);
        unchanged("46: meanPrice without bins", NOTHING, maker, x -> (int) x.meanPrice());
        unchanged("47: lossShare without sacks", NOTHING, maker, x -> (int) x.lossShare());
        unchanged("48: binByValue without bins", NONE, maker, x -> x.binByValue(0));
        unchanged("52: outputAt without output", NO_BIN, maker, x -> x.outputAt(0));
        Supplier<SighGranary> oneChange = () -> {
            SighGranary x = new SighGranary();
            x.addBin(20, 'f');
            return x;
        };
        unchanged("61: restoreSnapshot without one, after a change", STATE, oneChange, SighGranary::restoreSnapshot);
        unchanged("46: meanPrice of an empty bin", NOTHING, oneChange, x -> (int) x.meanPrice());
        unchanged("47: lossShare of an empty bin", NOTHING, oneChange, x -> (int) x.lossShare());
    }

    private static void exceptionsOfBins() {
        for (int bin : new int[] {-1, 5}) {
            refused("3: setMethod", NO_BIN, x -> x.setMethod(bin, 'f'));
            refused("4: addSack", NO_BIN, x -> x.addSack(bin, 1, 1, 1));
            refused("5: moveSack", NO_BIN, x -> x.moveSack(0, bin));
            refused("7: capacityOf", NO_BIN, x -> x.capacityOf(bin));
            refused("8: methodOf", NO_BIN, x -> x.methodOf(bin));
            refused("9: sackCount", NO_BIN, x -> x.sackCount(bin));
            refused("10: sackAt", NO_BIN, x -> x.sackAt(bin, 0));
            refused("11: weightIn", NO_BIN, x -> x.weightIn(bin));
            refused("17: setMice", NO_BIN, x -> x.setMice(bin, 1));
            refused("18: setTraps", NO_BIN, x -> x.setTraps(bin, 1));
            refused("20: miceIn", NO_BIN, x -> x.miceIn(bin));
            refused("21: trapsIn", NO_BIN, x -> x.trapsIn(bin));
            refused("23: eatenWithin", NO_BIN, x -> x.eatenWithin(bin, 1));
            refused("24: monthsUntilEmpty", NO_BIN, x -> x.monthsUntilEmpty(bin));
            refused("25: sift", NO_BIN, x -> x.sift(bin, 9));
            refused("26: sell", NO_BIN, x -> x.sell(bin, 1));
            refused("29: costOf", NO_BIN, x -> x.costOf(bin, 1));
            refused("30: valueOf", NO_BIN, x -> x.valueOf(bin));
            refused("33: bestLoad", NO_BIN, x -> x.bestLoad(bin, 50));
            refused("34: bestLoadByTrying", NO_BIN, x -> x.bestLoadByTrying(bin, 50));
            refused("35: fairestSplit", NO_BIN, x -> x.fairestSplit(bin));
            refused("36: fairestSplitByTrying", NO_BIN, x -> x.fairestSplitByTrying(bin));
            refused("50: writeBin", NO_BIN, x -> x.writeBin(bin));
        }
    }

    private static void exceptionsOfSacks() {
        for (int sack : new int[] {-1, 13}) {
            refused("5: moveSack", NONE, x -> x.moveSack(sack, 3));
            refused("12: weightOf", NONE, x -> x.weightOf(sack));
            refused("13: priceOf", NONE, x -> x.priceOf(sack));
            refused("14: gradeOf", NONE, x -> x.gradeOf(sack));
            refused("15: storedIn", NONE, x -> x.storedIn(sack));
            refused("16: binOf", NONE, x -> x.binOf(sack));
            refused("51: writeSack", NONE, x -> x.writeSack(sack));
        }
        refused("10: sackAt", NONE, x -> x.sackAt(0, 2));
        refused("24: monthsUntilEmpty", NONE, x -> x.monthsUntilEmpty(1));
        refused("29: costOf", NONE, x -> x.costOf(1, 16));
        refused("48: binByValue", NONE, x -> x.binByValue(5));
        refused("52: outputAt", NO_BIN, x -> x.outputAt(Sight.ofOutput(x).length()));
        refused("58: causeReason of another reason", NONE, SighGranary::causeReason);
    }

    private static void exceptionsOfValues() {
        refused("3: setMethod", BAD, x -> x.setMethod(0, 'x'));
        refused("4: addSack, weight", BAD, x -> x.addSack(0, 61, 1, 1));
        refused("4: addSack, price", BAD, x -> x.addSack(0, 1, 31, 1));
        refused("4: addSack, grade", BAD, x -> x.addSack(0, 1, 1, 10));
        refused("17: setMice", BAD, x -> x.setMice(0, 21));
        refused("18: setTraps", BAD, x -> x.setTraps(0, 10));
        refused("19: passMonths", BAD, x -> x.passMonths(25));
        refused("23: eatenWithin", BAD, x -> x.eatenWithin(0, 61));
        refused("25: sift", BAD, x -> x.sift(0, 10));
        refused("26: sell", BAD, x -> x.sell(0, 0));
        refused("27: setPrice, month", BAD, x -> x.setPrice(12, 1));
        refused("27: setPrice, price", BAD, x -> x.setPrice(0, 31));
        refused("28: priceIn", BAD, x -> x.priceIn(12));
        refused("29: costOf", BAD, x -> x.costOf(0, 0));
        refused("33: bestLoad", BAD, x -> x.bestLoad(0, 401));
        refused("34: bestLoadByTrying", BAD, x -> x.bestLoadByTrying(0, 401));
        refused("37: bestTrades", BAD, x -> x.bestTrades(7));
        refused("38: bestTradesByTrying", BAD, x -> x.bestTradesByTrying(7));
        refused("53: appendInput", BAD, x -> x.appendInput((char) 127));
    }

    // Each call here has more than one exception that applies, the one that is due is listed first.
    private static void firstOfSeveralExceptions() {
        refused("2: a wrong capacity ahead of the limit", BAD, x -> x.addBin(19, 'f'));
        refused("2: a wrong method ahead of the limit", BAD, x -> x.addBin(20, 'x'));
        refused("3: no bin ahead of no method", NO_BIN, x -> x.setMethod(5, 'x'));
        refused("4: no bin ahead of wrong values", NO_BIN, x -> x.addSack(5, 0, 0, -1));
        refused("4: a wrong weight ahead of a full bin", BAD, x -> x.addSack(2, 61, 1, 1));
        refused("4: a wrong price ahead of a full bin", BAD, x -> x.addSack(2, 1, 0, 1));
        refused("4: a wrong grade ahead of an overfull bin", BAD, x -> x.addSack(1, 6, 1, -1));
        refused("5: no sack ahead of no bin", NONE, x -> x.moveSack(13, 5));
        refused("10: no bin ahead of no position", NO_BIN, x -> x.sackAt(5, -1));
        refused("17: no bin ahead of wrong mice", NO_BIN, x -> x.setMice(5, -1));
        refused("18: no bin ahead of wrong traps", NO_BIN, x -> x.setTraps(5, -1));
        refused("23: no bin ahead of wrong months", NO_BIN, x -> x.eatenWithin(5, -1));
        refused("25: no bin ahead of a wrong mesh", NO_BIN, x -> x.sift(5, 0));
        refused("26: no bin ahead of wrong kilograms", NO_BIN, x -> x.sell(5, 0));
        refused("26: wrong kilograms ahead of too little", BAD, x -> x.sell(3, 401));
        refused("29: no bin ahead of wrong kilograms", NO_BIN, x -> x.costOf(5, 0));
        refused("29: wrong kilograms ahead of too little", BAD, x -> x.costOf(3, 401));
        refused("33: no bin ahead of a wrong limit", NO_BIN, x -> x.bestLoad(5, -1));
        refused("34: no bin ahead of a wrong limit", NO_BIN, x -> x.bestLoadByTrying(5, -1));
    }

    private static void rejected(String what, Supplier<SighGranary> maker, int reason, int detail, String cause,
            Call call) {
        SighGranary rejected = maker.get();
        Check.same(what, Sight.answer(() -> call.of(rejected)), REJECTED);
        Check.same(what + ": latest rejection", Sight.ofRejection(rejected), reason + " " + detail + " " + cause);
        Check.same(what + ": all else", Sight.ofRest(rejected), Sight.ofRest(maker.get()));
    }

    private static void rejected(String what, int reason, int detail, Call call) {
        rejected(what, RefusedCallsTest::busyWithInput, reason, detail, NONE, call);
    }

    private static void rejections() {
        rejected("2: the sixth bin", SighGranary.BIN_LIMIT, 5, x -> x.addBin(20, 'f'));
        rejected("4: the eleventh sack", SighGranary.SACK_LIMIT, 2, x -> x.addSack(2, 1, 1, 1));
        rejected("4: a kilogram too much", SighGranary.OVERFULL, 5, x -> x.addSack(1, 6, 1, 1));
        rejected("4: a kilogram too much for an empty bin", SighGranary.OVERFULL, 20, x -> x.addSack(3, 21, 1, 1));
        rejected("5: the bin of the sack", SighGranary.SAME_BIN, 0, x -> x.moveSack(0, 0));
        rejected("5: the eleventh sack", SighGranary.SACK_LIMIT, 2, x -> x.moveSack(2, 2));
        rejected("5: too heavy", SighGranary.OVERFULL, 5, x -> x.moveSack(0, 1));
        rejected("26: a kilogram more than there is", SighGranary.TOO_LITTLE, 15, x -> x.sell(1, 16));
        rejected("26: an empty bin", SighGranary.TOO_LITTLE, 0, x -> x.sell(4, 1));
        rejected("26: the most of all", SighGranary.TOO_LITTLE, 40, x -> x.sell(2, 400));
    }

    /** A bin of capacity 20 with ten sacks of 2 kilograms, and a heavy sack elsewhere. */
    private static SighGranary fullInBothWays() {
        SighGranary x = new SighGranary();
        x.addBin(60, 'f');
        x.addBin(20, 'f');
        x.addSack(0, 60, 1, 1);
        for (int sack = 1; sack < 11; sack++) {
            x.addSack(1, 2, 1, 1);
        }
        x.saveSnapshot();
        return x;
    }

    private static void firstOfSeveralReasons() {
        Supplier<SighGranary> maker = RefusedCallsTest::fullInBothWays;
        rejected("4: the limit ahead of the weight", maker, SighGranary.SACK_LIMIT, 1, NONE,
                x -> x.addSack(1, 1, 1, 1));
        rejected("5: the same bin ahead of limit and weight", maker, SighGranary.SAME_BIN, 1, NONE,
                x -> x.moveSack(1, 1));
        rejected("5: the same bin ahead of the weight", maker, SighGranary.SAME_BIN, 0, NONE, x -> x.moveSack(0, 0));
        rejected("5: the limit ahead of the weight", maker, SighGranary.SACK_LIMIT, 1, NONE, x -> x.moveSack(0, 1));
    }

    private static void failed(String what, String due, String input) {
        SighGranary failed = busy();
        Check.type(failed, input);
        Check.same(what, Sight.answer(failed::execute), due);
        SighGranary untouched = busy();
        Check.same(what + ": latest rejection", Sight.ofRejection(failed), Sight.ofRejection(untouched));
        Check.same(what + ": all else", Sight.ofRest(failed), Sight.ofRest(untouched));
    }

    // 54: "all of them or none. The input is empty after the call, also if an exception is thrown."
    private static void exceptionsOfExecute() {
        String changes = "sack 0 1 1 1;traps 0 9;price 1 1;months 2;";
        for (String command : new String[] {"mice 0 21", "mice 5 1", "move 99 0", "move 0 5", "sell 5 1", "sell 0 0"}) {
            failed("54: " + command, STATE, command);
            failed("54: after changes, " + command, STATE, changes + command);
        }
        failed("54: ahead of changes", STATE, "mice 0 21;" + changes.substring(0, changes.length() - 1));
    }

    private static void commandRejected(String input, int number, int cause) {
        rejected("54: " + input, RefusedCallsTest::busy, SighGranary.COMMAND_REJECTED, number, Integer.toString(cause),
                x -> Check.run(x, input));
    }

    private static void rejectionsOfExecute() {
        commandRejected("bin 20 f", 0, SighGranary.BIN_LIMIT);
        commandRejected("sack 2 1 1 1", 0, SighGranary.SACK_LIMIT);
        commandRejected("sack 1 6 1 1", 0, SighGranary.OVERFULL);
        commandRejected("move 0 0", 0, SighGranary.SAME_BIN);
        commandRejected("move 2 2", 0, SighGranary.SACK_LIMIT);
        commandRejected("move 0 1", 0, SighGranary.OVERFULL);
        commandRejected("sell 1 16", 0, SighGranary.TOO_LITTLE);
        commandRejected("sack 1 5 1 1;sack 1 1 1 1", 1, SighGranary.OVERFULL);
        commandRejected("months 1;months 1;sift 0 9;mice 0 9;price 1 1;sell 1 99", 5, SighGranary.TOO_LITTLE);
        commandRejected("sell 1 16;months 1;months 1;months 1", 0, SighGranary.TOO_LITTLE);
    }

    // 54: "if the first command that fails does so for another reason than a rejection"
    private static void firstOfSeveralFailures() {
        failed("54: another failure ahead of a rejection", STATE, "mice 0 21;sell 1 16");
        failed("54: of three commands the second", STATE, "mice 0 1;mice 0 21;sell 1 16");
        commandRejected("sell 1 16;mice 0 21", 0, SighGranary.TOO_LITTLE);
        commandRejected("mice 0 1;sell 1 16;mice 0 21", 1, SighGranary.TOO_LITTLE);
        commandRejected("sell 1 16;move 0 0", 0, SighGranary.TOO_LITTLE);
        syntaxErrorAhead("mice 0 21;x", 10);
        syntaxErrorAhead("sell 1 16;x", 10);
        syntaxErrorAhead("mice 0 1;sell 1 16;mice 0 21;", 29);
    }

    // The syntax error of busy() has the offset 5.
    private static void syntaxErrorAhead(String input, int offset) {
        SighGranary failed = busy();
        SighGranary untouched = busy();
        Check.type(failed, input);
        Check.same("54: " + input, Sight.answer(failed::execute), BAD);
        Check.same("55: " + input, failed.syntaxErrorOffset(), offset);
        Check.same("54: " + input + ": latest rejection", Sight.ofRejection(failed),
                Sight.ofRejection(untouched));
        Check.same("54: " + input + ": all else", Sight.ofRest(failed),
                Sight.ofRest(untouched).replace("syntax error 5", "syntax error " + offset));
    }

    // 53: "if the input has 60 characters"; what was typed is executed as if nothing more had been tried
    private static void fullInput() {
        SighGranary x = busy();
        String input = "price 0 9;price 1 9;price 2 9;price 3 9;price 4 9;price 05 9";
        Check.same("53: characters", input.length(), 60);
        Check.type(x, input.substring(0, 59));
        Check.same("53: the 60th", x.appendInput(input.charAt(59)), 60);
        Check.same("53: the 61st", Sight.answer(() -> x.appendInput('9')), STATE);
        Check.same("53: a wrong code ahead of a full input", Sight.answer(() -> x.appendInput((char) 31)), BAD);
        Check.same("53: latest rejection", Sight.ofRejection(x), Sight.ofRejection(busy()));
        Check.same("53: executed", x.execute(), 6);
        Check.same("53: the last command", x.priceIn(5), 9);
        Check.same("53: empty again", x.appendInput('a'), 1);
    }

    // The calls that the document does not call changes, each with an answer that is not refused.
    private static void queriesChangeNothing() {
        Call[] queries = {SighGranary::binCount, x -> x.capacityOf(0), x -> x.methodOf(0), x -> x.sackCount(0),
            x -> x.sackAt(0, 0), x -> x.weightIn(0), x -> x.weightOf(0), x -> x.priceOf(0), x -> x.gradeOf(0),
            x -> x.storedIn(0), x -> x.binOf(0), x -> x.miceIn(0), x -> x.trapsIn(0), SighGranary::month,
            x -> x.eatenWithin(0, 60), x -> x.monthsUntilEmpty(0), x -> x.priceIn(1), x -> x.costOf(0, 20),
            x -> x.valueOf(0), SighGranary::valueTotal, SighGranary::valueByAccounts, x -> x.bestLoad(0, 50),
            x -> x.bestLoadByTrying(0, 50), x -> x.fairestSplit(0), x -> x.fairestSplitByTrying(0),
            x -> x.bestTrades(6), x -> x.bestTradesByTrying(6), SighGranary::storedWeight, SighGranary::soldWeight,
            SighGranary::eatenWeight, SighGranary::chaffWeight, SighGranary::weightTotal, SighGranary::revenue,
            SighGranary::profit, x -> (int) x.meanPrice(), x -> (int) x.lossShare(), x -> x.binByValue(0),
            x -> x.isConsistent() ? 1 : 0, x -> x.outputAt(0), SighGranary::syntaxErrorOffset,
            SighGranary::rejectionReason, SighGranary::rejectionDetail};
        for (int number = 0; number < queries.length; number++) {
            SighGranary asked = busyWithInput();
            Check.holds("query " + number + " answers", Sight.answer(supply(queries[number], asked)).length() < 9);
            Check.same("query " + number + ": latest rejection", Sight.ofRejection(asked),
                    Sight.ofRejection(busyWithInput()));
            Check.same("query " + number + ": all else", Sight.ofRest(asked), Sight.ofRest(busyWithInput()));
        }
    }

    private static IntSupplier supply(Call call, SighGranary granary) {
        return () -> call.of(granary);
    }
}
