import java.util.function.IntSupplier;

/** Long runs of calls with drawn arguments, each answer and all that can be seen after it compared with the model's. */
public final class RandomRunsTest {
    private static final int RUNS = 100;
    private static final int CALLS = 400;
    private static final String[] WORDS = {"bin ", "method ", "sack ", "move ", "mice ", "traps ", "price ", "sift ",
        "sell ", "months "};
    private static final String[] SHAPES = {"NM", "DM", "DNND", "ND", "DN", "DD", "NN", "DD", "DN", "N"};

    private long seed;
    private final SighGranary granary = new SighGranary();
    private final Model model = new Model();

    private RandomRunsTest(long seed) {
        this.seed = seed;
    }

    public static void main(String[] args) {
        for (int run = 0; run < RUNS; run++) {
            RandomRunsTest test = new RandomRunsTest(run);
            for (int call = 0; call < CALLS; call++) {
                String what = "run " + run + ", call " + call;
                test.compareCall(what);
                test.compareLatest(what);
                if (call % 5 == 0) {
                    test.compareAll(what);
                }
            }
        }
        Check.end();
    }

    private int draw(int least, int most) {
        seed = seed * 6364136223846793005L + 1442695040888963407L;
        return least + (int) Math.floorMod(seed >>> 33, (long) (most - least + 1));
    }

    /** Mostly within the bounds, now and then just outside them. */
    private int near(int least, int most) {
        return draw(0, 29) == 0 ? draw(0, 1) == 0 ? least - 1 : most + 1 : draw(least, most);
    }

    private int aBin() {
        return near(0, Math.max(0, granary.binCount() - 1));
    }

    private int aSack() {
        return near(Math.max(0, model.now.nextId - 40), Math.max(0, model.now.nextId - 1));
    }

    private char aMethod() {
        return draw(0, 30) == 0 ? 'x' : "flh".charAt(draw(0, 2));
    }

    private static void compare(String what, IntSupplier got, IntSupplier due) {
        Check.same(what, Sight.answer(got), Sight.answer(due));
    }

    private void compareCall(String what) {
        switch (draw(0, 15)) {
            case 0 -> addBin(what, near(20, 400), aMethod());
            case 1, 2, 3, 4 -> addSack(what, aBin(), near(1, 60), near(1, 30), near(0, 9));
            case 5 -> moveSack(what, aSack(), aBin());
            case 6 -> changeBin(what, aBin());
            case 7 -> passMonths(what, draw(0, 3) == 0 ? near(1, 24) : near(1, 3));
            case 8 -> sift(what, aBin(), near(1, 9));
            case 9, 10 -> sell(what, aBin(), draw(0, 3) == 0 ? near(1, 400) : near(1, 60));
            case 11 -> setPrice(what, near(0, 11), near(1, 30));
            case 12, 13 -> execute(what);
            case 14 -> compare(what + ", undo", granary::undo, model::undo);
            default -> snapshot(what);
        }
    }

    private void addBin(String what, int capacity, char method) {
        compare(what + ", addBin", () -> granary.addBin(capacity, method),
                () -> model.change("addBin", capacity, method));
    }

    private void addSack(String what, int bin, int weight, int price, int grade) {
        compare(what + ", addSack", () -> granary.addSack(bin, weight, price, grade),
                () -> model.change("addSack", bin, weight, price, grade));
    }

    private void moveSack(String what, int sack, int bin) {
        compare(what + ", moveSack", () -> granary.moveSack(sack, bin), () -> model.change("moveSack", sack, bin));
    }

    private void changeBin(String what, int bin) {
        char method = aMethod();
        int mice = near(0, 20);
        int traps = near(0, 9);
        switch (draw(0, 2)) {
            case 0 -> compare(what + ", setMethod", () -> granary.setMethod(bin, method),
                    () -> model.change("setMethod", bin, method));
            case 1 -> compare(what + ", setMice", () -> granary.setMice(bin, mice),
                    () -> model.change("setMice", bin, mice));
            default -> compare(what + ", setTraps", () -> granary.setTraps(bin, traps),
                    () -> model.change("setTraps", bin, traps));
        }
    }

    private void passMonths(String what, int months) {
        compare(what + ", passMonths", () -> granary.passMonths(months), () -> model.change("passMonths", months));
    }

    private void sift(String what, int bin, int mesh) {
        compare(what + ", sift", () -> granary.sift(bin, mesh), () -> model.change("sift", bin, mesh));
    }

    private void sell(String what, int bin, int kilograms) {
        compare(what + ", sell", () -> granary.sell(bin, kilograms), () -> model.change("sell", bin, kilograms));
    }

    private void setPrice(String what, int month, int price) {
        compare(what + ", setPrice", () -> granary.setPrice(month, price),
                () -> model.change("setPrice", month, price));
    }

    private void snapshot(String what) {
        switch (draw(0, 5)) {
            case 0 -> compare(what + ", restoreSnapshot", granary::restoreSnapshot, model::restore);
            case 1, 2 -> compare(what + ", saveSnapshot", granary::saveSnapshot, model::save);
            default -> compare(what + ", undo", granary::undo, model::undo);
        }
    }

    private void execute(String what) {
        String input = anInput();
        for (int index = 0; index < input.length(); index++) {
            char character = input.charAt(index);
            compare(what + ", appendInput", () -> granary.appendInput(character), () -> model.append(character));
        }
        compare(what + ", execute " + input, granary::execute, model::execute);
    }

    private String anInput() {
        StringBuilder text = new StringBuilder();
        int commands = draw(1, 4);
        for (int command = 0; command < commands; command++) {
            text.append(command > 0 ? ";" : "").append(aCommand());
        }
        if (draw(0, 2) == 0) {
            spoil(text);
        }
        return text.toString();
    }

    private String aCommand() {
        int kind = draw(0, WORDS.length - 1);
        StringBuilder text = new StringBuilder(WORDS[kind]);
        for (int index = 0; index < SHAPES[kind].length(); index++) {
            char shape = SHAPES[kind].charAt(index);
            text.append(index > 0 ? " " : "");
            if (shape == 'M') {
                text.append("flh".charAt(draw(0, 2)));
            } else if (shape == 'D') {
                text.append(draw(0, 3) == 0 ? draw(0, 9) : draw(0, 1));
            } else {
                text.append(draw(0, 3) == 0 ? draw(0, 999) : draw(1, 25));
            }
        }
        return text.toString();
    }

    private void spoil(StringBuilder text) {
        int at = draw(0, text.length() - 1);
        char character = "binmethodsackvprcltw 0123456789;flh~".charAt(draw(0, 35));
        switch (draw(0, 3)) {
            case 0 -> text.deleteCharAt(at);
            case 1 -> text.setCharAt(at, character);
            case 2 -> text.insert(at, character);
            default -> text.setLength(at);
        }
    }

    private void compareLatest(String what) {
        Check.same(what + ": month", granary.month(), model.now.month);
        Check.same(what + ": reason", known(granary::rejectionReason), model.reason);
        Check.same(what + ": detail", known(granary::rejectionDetail), model.reason == 0 ? 0 : model.detail);
        Check.same(what + ": cause", known(granary::causeReason), model.cause);
        Check.same(what + ": offset", known(granary::syntaxErrorOffset), Math.max(0, model.syntaxError));
    }

    private static int known(IntSupplier call) {
        String answer = Sight.answer(call);
        return answer.equals("NoSuchElementException") ? 0 : Integer.parseInt(answer);
    }

    private void compareAll(String what) {
        Check.same(what + ": binCount", granary.binCount(), model.now.bins.size());
        compareAccounts(what);
        for (int bin = -1; bin <= granary.binCount(); bin++) {
            compareBin(what + ", bin " + bin, bin);
            compare(what + ": binByValue", supply(granary::binByValue, bin), supply(model::binByValue, bin));
        }
        for (int id = Math.max(-1, model.now.nextId - 60); id <= model.now.nextId; id++) {
            compareSack(what + ", sack " + id, id);
        }
        for (int month = 0; month < 12; month++) {
            Check.same(what + ": priceIn", granary.priceIn(month), model.now.prices[month]);
        }
        int trades = draw(1, 6);
        Check.same(what + ": bestTrades", granary.bestTrades(trades), model.bestTrades(trades));
        Check.same(what + ": bestTradesByTrying", granary.bestTradesByTrying(trades), model.bestTrades(trades));
        Check.holds(what + ": isConsistent", granary.isConsistent());
    }

    private interface Query {
        int of(int value);
    }

    private static IntSupplier supply(Query query, int value) {
        return () -> query.of(value);
    }

    private void compareAccounts(String what) {
        Model.State now = model.now;
        int weight = now.sacks.stream().mapToInt(Model.Sack::weight).sum();
        int value = now.sacks.stream().mapToInt(sack -> sack.weight() * sack.price()).sum();
        Check.same(what + ": storedWeight", granary.storedWeight(), now.stored);
        Check.same(what + ": soldWeight", granary.soldWeight(), now.sold);
        Check.same(what + ": eatenWeight", granary.eatenWeight(), now.eaten);
        Check.same(what + ": chaffWeight", granary.chaffWeight(), now.chaff);
        Check.same(what + ": weightTotal", granary.weightTotal(), weight);
        Check.same(what + ": revenue", granary.revenue(), now.revenue);
        Check.same(what + ": profit", granary.profit(), now.revenue - now.costOfSold);
        Check.same(what + ": valueTotal", granary.valueTotal(), value);
        Check.same(what + ": valueByAccounts", granary.valueByAccounts(), value);
        if (weight > 0) {
            Check.same(what + ": meanPrice", granary.meanPrice(), (double) value / weight);
        }
        if (now.stored > 0) {
            Check.same(what + ": lossShare", granary.lossShare(), (float) (now.eaten + now.chaff) / now.stored);
        }
    }

    private void compareBin(String what, int bin) {
        compare(what + ": weightIn", () -> granary.weightIn(bin), () -> {
            model.bin(bin);
            return model.weightIn(bin);
        });
        compare(what + ": valueOf", () -> granary.valueOf(bin), () -> {
            model.bin(bin);
            return model.valueOf(bin);
        });
        compare(what + ": writeBin", () -> granary.writeBin(bin), () -> model.binText(bin).length());
        int months = near(0, 60);
        compare(what + ": eatenWithin", () -> granary.eatenWithin(bin, months), () -> model.eatenWithin(bin, months));
        compare(what + ": monthsUntilEmpty", () -> granary.monthsUntilEmpty(bin), () -> model.monthsUntilEmpty(bin));
        int kilograms = near(1, 400);
        compare(what + ": costOf", () -> granary.costOf(bin, kilograms), () -> model.costOf(bin, kilograms));
        int limit = near(0, 400);
        compare(what + ": bestLoad", () -> granary.bestLoad(bin, limit), () -> model.bestLoad(bin, limit));
        compare(what + ": bestLoadByTrying", () -> granary.bestLoadByTrying(bin, limit),
                () -> model.bestLoad(bin, limit));
        compare(what + ": fairestSplit", () -> granary.fairestSplit(bin), () -> model.fairestSplit(bin));
        compare(what + ": fairestSplitByTrying", () -> granary.fairestSplitByTrying(bin),
                () -> model.fairestSplit(bin));
        if (bin >= 0 && bin < model.now.bins.size()) {
            compareExistingBin(what, bin);
        }
    }

    private void compareExistingBin(String what, int bin) {
        Model.Bin due = model.bin(bin);
        Check.same(what + ": text", Check.outputOf(granary, granary.writeBin(bin)), model.binText(bin));
        Check.same(what + ": capacityOf", granary.capacityOf(bin), due.capacity());
        Check.same(what + ": methodOf", granary.methodOf(bin), due.method());
        Check.same(what + ": miceIn", granary.miceIn(bin), due.mice());
        Check.same(what + ": trapsIn", granary.trapsIn(bin), due.traps());
        Check.same(what + ": sackCount", granary.sackCount(bin), model.inBin(bin).size());
        for (int position = 0; position < granary.sackCount(bin); position++) {
            Check.same(what + ": sackAt", granary.sackAt(bin, position), model.inOrder(bin).get(position).id());
        }
    }

    private void compareSack(String what, int id) {
        compare(what + ": weightOf", () -> granary.weightOf(id), () -> model.sack(id).weight());
        compare(what + ": priceOf", () -> granary.priceOf(id), () -> model.sack(id).price());
        compare(what + ": gradeOf", () -> granary.gradeOf(id), () -> model.sack(id).grade());
        compare(what + ": storedIn", () -> granary.storedIn(id), () -> model.sack(id).month());
        compare(what + ": binOf", () -> granary.binOf(id), () -> model.sack(id).bin());
        compare(what + ": writeSack", () -> granary.writeSack(id), () -> model.sackText(id).length());
        if (Sight.answer(() -> granary.writeSack(id)).length() < 3) {
            Check.same(what + ": text", Check.outputOf(granary, granary.writeSack(id)), model.sackText(id));
        }
    }
}
