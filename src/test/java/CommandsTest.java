import java.util.NoSuchElementException;

/** Promises 53 to 55. */
public final class CommandsTest {
    private static final Class<IllegalArgumentException> BAD = IllegalArgumentException.class;
    private static final Class<IllegalStateException> STATE = IllegalStateException.class;
    private static final Class<NoSuchElementException> NONE = NoSuchElementException.class;

    public static void main(String[] args) {
        promise53AppendInput();
        promise54EachCommand();
        promise54OtherFailures();
        promise54Rejections();
        promise54AllOrNone();
        promise54Numbers();
        promise55Offsets();
        promise55Latest();
        Check.end();
    }

    private static void promise53AppendInput() {
        SighGranary x = new SighGranary();
        Check.fails("53: code 31", BAD, () -> x.appendInput((char) 31));
        Check.fails("53: code 127", BAD, () -> x.appendInput((char) 127));
        Check.fails("53: code 65535", BAD, () -> x.appendInput((char) 65535));
        Check.same("53: code 32", x.appendInput((char) 32), 1);
        Check.same("53: code 126", x.appendInput((char) 126), 2);
        for (int length = 3; length <= 60; length++) {
            Check.same("53: length", x.appendInput('a'), length);
        }
        Check.fails("53: full", STATE, () -> x.appendInput('a'));
        Check.fails("53: a bad code ahead of full", BAD, () -> x.appendInput((char) 31));
        Check.failsOnce("53: executed", BAD, x::execute);
        Check.same("53: empty again", x.appendInput('a'), 1);
    }

    private static void promise54EachCommand() {
        SighGranary x = new SighGranary();
        Check.same("54: bins", Check.run(x, "bin 100 f;bin 50 l;bin 20 h"), 3);
        Check.same("54: bin 1", Check.outputOf(x, x.writeBin(1)), "l0/50");
        Check.same("54: sacks", Check.run(x, "sack 0 25 12 3;sack 1 9 30 0"), 2);
        Check.same("54: sack 0", Check.outputOf(x, x.writeSack(0)), "#0:25*12g3@0");
        Check.same("54: sack 1", Check.outputOf(x, x.writeSack(1)), "#1:9*30g0@1");
        Check.same("54: move", Check.run(x, "move 1 0"), 1);
        Check.same("54: moved", x.binOf(1), 0);
        Check.same("54: method", Check.run(x, "method 0 h;method 2 f"), 2);
        Check.same("54: mice and traps", Check.run(x, "mice 0 7;traps 0 2"), 2);
        Check.same("54: bin 0", Check.outputOf(x, x.writeBin(0)), "h34/100m7t2 0 1");
        Check.same("54: bin 2", x.methodOf(2), 'f');
        Check.same("54: price", Check.run(x, "price 11 30;price 1 7"), 2);
        Check.same("54: priceIn", x.priceIn(11), 30);
        Check.same("54: months", Check.run(x, "months 1"), 1);
        Check.same("54: month", x.month(), 1);
        Check.same("54: eaten", x.eatenWeight(), 5);
        Check.same("54: sift", Check.run(x, "sift 0 8"), 1);
        Check.same("54: chaff", x.chaffWeight(), 10 + 7);
        Check.same("54: sell", Check.run(x, "sell 0 11"), 1);
        Check.same("54: revenue", x.revenue(), 77);
        Check.same("54: left", Check.outputOf(x, x.writeBin(0)), "h1/100m8t2 1");
        Check.same("54: as many as fit", Check.run(x, "bin 20 f;bin 20 f;mice 0 1;mice 0 2;mice 0 3;mice 0 4"), 6);
        Check.same("54: all of them", x.miceIn(0), 4);
    }

    private static void promise54OtherFailures() {
        String[] commands = {"bin 19 f", "bin 401 h", "method 1 f", "sack 0 61 1 1", "sack 0 0 1 1", "sack 0 1 31 1",
            "sack 1 1 1 1", "move 9 0", "move 0 1", "mice 0 21", "mice 1 0", "traps 1 0", "price 12 1", "price 0 31",
            "price 0 0", "sift 0 0", "sift 1 1", "sell 0 0", "sell 0 401", "sell 1 1", "months 0", "months 25"};
        for (String command : commands) {
            SighGranary x = new SighGranary();
            x.addBin(20, 'f');
            x.addSack(0, 10, 1, 0);
            Check.type(x, command);
            Check.failsOnce("54: " + command, STATE, x::execute);
            Check.fails("54: no rejection", NONE, x::rejectionReason);
            Check.fails("54: no syntax error", NONE, x::syntaxErrorOffset);
            Check.same("54: the input is empty", x.appendInput('b'), 1);
            Check.same("54: nothing to undo but these", x.undo(), 1);
        }
    }

    private static void promise54Rejections() {
        rejection("sack 0 11 1 1", 0, SighGranary.OVERFULL);
        rejection("mice 0 3;move 0 0", 1, SighGranary.SAME_BIN);
        rejection("sell 0 4;sell 0 7;mice 0 99", 1, SighGranary.TOO_LITTLE);
        rejection("bin 20 f;bin 20 f;bin 20 f;bin 20 f;bin 20 f", 4, SighGranary.BIN_LIMIT);
        rejection("bin 20 f;move 0 1;move 0 0;sell 1 1;sift 0 1;sell 1 1", 3, SighGranary.TOO_LITTLE);
        SighGranary x = new SighGranary();
        x.addBin(400, 'f');
        for (int sack = 0; sack < 10; sack++) {
            x.addSack(0, 1, 1, 0);
        }
        Check.type(x, "sack 0 1 1 1");
        Check.rejects("54: SACK_LIMIT", x, SighGranary.COMMAND_REJECTED, 0, x::execute);
        Check.same("54: its cause", x.causeReason(), SighGranary.SACK_LIMIT);
    }

    private static void rejection(String commands, int number, int cause) {
        SighGranary x = new SighGranary();
        x.addBin(20, 'f');
        x.addSack(0, 10, 1, 0);
        Check.type(x, commands);
        Check.rejects("54: " + commands, x, SighGranary.COMMAND_REJECTED, number, x::execute);
        Check.same("54: its cause", x.causeReason(), cause);
        Check.same("54: nothing has changed", Check.outputOf(x, x.writeBin(0)), "f10/20 0");
        Check.same("54: no bin more", x.binCount(), 1);
        Check.same("54: the input is empty", x.appendInput('b'), 1);
        Check.same("54: two changes to undo", x.undo(), 1);
    }

    private static void promise54AllOrNone() {
        SighGranary x = new SighGranary();
        x.addBin(100, 'f');
        x.addSack(0, 30, 2, 0);
        Check.type(x, "price 3 5;sell 0 9;sift 0 9;mice 0 3;months 3;move 5 0");
        Check.failsOnce("54: the last fails", STATE, x::execute);
        Check.same("54: month", x.month(), 0);
        Check.same("54: price", x.priceIn(3), 10);
        Check.same("54: weight", x.weightIn(0), 30);
        Check.same("54: grade", x.gradeOf(0), 0);
        Check.same("54: revenue", x.revenue(), 0);
        Check.same("54: eaten", x.eatenWeight(), 0);
        Check.same("54: chaff", x.chaffWeight(), 0);
        Check.same("54: mice", x.miceIn(0), 0);
        Check.same("54: value", x.valueByAccounts(), 60);
        Check.type(x, "sack 0 1 1 1;sack 0 1 1 1;months 99");
        Check.failsOnce("54: stored but fails", STATE, x::execute);
        Check.same("54: the next id is as before", x.addSack(0, 1, 1, 1), 1);
        Check.same("54: stored", x.storedWeight(), 31);
        Check.same("54: three changes", x.undo(), 2);
        Check.same("54: one change for all commands", Check.run(x, "mice 0 1;traps 0 1;months 2"), 3);
        Check.same("54: undone at once", x.undo(), 2);
        Check.same("54: undone month", x.month(), 0);
        Check.same("54: undone traps", x.trapsIn(0), 0);
    }

    private static void promise54Numbers() {
        SighGranary x = new SighGranary();
        Check.same("54: zeros in front", Check.run(x, "bin 020 f;sack 0 007 03 4;mice 0 000;months 001"), 4);
        Check.same("54: capacity", x.capacityOf(0), 20);
        Check.same("54: weight", x.weightOf(0), 7);
        Check.same("54: price", x.priceOf(0), 3);
        Check.same("54: grade", x.gradeOf(0), 4);
        Check.same("54: month", x.month(), 1);
    }

    private static void promise55Offsets() {
        offset("", 0);
        offset(" ", 0);
        offset(";", 0);
        offset("x", 0);
        offset("B", 0);
        offset("bin", 3);
        offset("bin ", 4);
        offset("bin  20 f", 4);
        offset("bin 20", 6);
        offset("bin 20 ", 7);
        offset("bin 20 F", 7);
        offset("bin 20f", 6);
        offset("bin 2000 f", 7);
        offset("bin 20 ff", 8);
        offset("bin 20 f ", 8);
        offset("bin 20 f;", 9);
        offset("bin 20 f;;", 9);
        offset("bin 20 f; bin 20 f", 9);
        offset("bin 20 f;bim", 11);
        offset("bit", 2);
        offset("m", 1);
        offset("ma", 1);
        offset("mo", 2);
        offset("mox", 2);
        offset("mov ", 3);
        offset("monthy", 5);
        offset("months1", 6);
        offset("months -1", 7);
        offset("months 1;months 2;month 3", 23);
        offset("metho ", 5);
        offset("mit", 2);
        offset("mice 10 5", 6);
        offset("mice a", 5);
        offset("mice 0 1234", 10);
        offset("method 0 fl", 10);
        offset("method 00 f", 8);
        offset("s", 1);
        offset("sa ", 2);
        offset("seld", 3);
        offset("sex", 2);
        offset("sib", 2);
        offset("sy", 1);
        offset("sack 0 1 1 10", 12);
        offset("sack 0 1 1", 10);
        offset("sack 0 1 1 ", 11);
        offset("sack 00 1 1 1", 6);
        offset("sift 0 12", 8);
        offset("sift 0 a", 7);
        offset("sell 0 12x", 9);
        offset("traps 0 10", 9);
        offset("traps 0", 7);
        offset("tx", 1);
        offset("price 0", 7);
        offset("price 0,5", 7);
        offset("price 1234 5", 9);
        offset("pb", 1);
        offset("move 1", 6);
        offset("move 12 34", 9);
        offset("bin 20 f;bin 20 f;bin 20 f;bin 20 f;bin 20 f;bin 20 f;bin 20", 60);
        offset("bin 1 f;bin 1 f;bin 1 f;bin 1 f;bin 1 f;bin 1 f;bin 1 f;bi z", 58);
    }

    private static void offset(String input, int due) {
        SighGranary x = new SighGranary();
        x.addBin(20, 'f');
        Check.type(x, input);
        Check.failsOnce("54: \"" + input + "\"", BAD, x::execute);
        Check.same("55: \"" + input + "\"", x.syntaxErrorOffset(), due);
        Check.fails("54: no rejection", NONE, x::rejectionReason);
        Check.same("54: nothing is done", x.binCount(), 1);
        Check.same("54: the input is empty", x.appendInput('b'), 1);
    }

    private static void promise55Latest() {
        SighGranary x = new SighGranary();
        Check.fails("55: none yet", NONE, x::syntaxErrorOffset);
        x.addBin(20, 'f');
        Check.type(x, "bin 20 x");
        Check.failsOnce("55: first", BAD, x::execute);
        x.saveSnapshot();
        x.undo();
        Check.same("55: undo does not cover it", x.syntaxErrorOffset(), 7);
        Check.run(x, "bin 20 f");
        Check.same("55: nor a good input", x.syntaxErrorOffset(), 7);
        Check.type(x, "bin");
        x.restoreSnapshot();
        Check.failsOnce("55: the input is kept by a snapshot", BAD, x::execute);
        Check.same("55: the latest", x.syntaxErrorOffset(), 3);
    }
}
