import java.util.Arrays;
import java.util.NoSuchElementException;

/** What is empty, what is full, what has just enough, and what begins again: both sides of each, under its sentence. */
public final class EdgesTest {
    private static final Class<NoSuchElementException> NONE = NoSuchElementException.class;

    public static void main(String[] args) {
        fiveBins();
        tenSacks();
        weightsUpToTheCapacity();
        roomAfterLosses();
        idsAreNotUsedAgain();
        emptySacksDisappear();
        otherSacksStay();
        soldSacksCountNoMore();
        fullGranary();
        orderOfSacks();
        salesInOrder();
        siftingByGrade();
        siftingIsRoundedDown();
        siftingOfNothing();
        trapsAndMice();
        miceGrow();
        miceStarve();
        miceEatAcrossSacks();
        monthsOneByOne();
        monthsOfTheYear();
        forecastsAtTheirEnds();
        loadsAtTheirEnds();
        splitsAtTheirEnds();
        tradesAtTheEndsOfTheYear();
        accountsOfNothing();
        valuesInEqualPlaces();
        writtenNumbersOnlyIfSome();
        longestOutput();
        Check.end();
    }

    private static SighGranary granary(int capacity, char method, int... weights) {
        SighGranary x = new SighGranary();
        x.addBin(capacity, method);
        for (int weight : weights) {
            x.addSack(0, weight, 2, 0);
        }
        return x;
    }

    private static int[] weights(int number, int weight) {
        int[] weights = new int[number];
        Arrays.fill(weights, weight);
        return weights;
    }

    // "There are at most 5 bins, numbered from 0 in the order in which they are added; they are never removed."
    private static void fiveBins() {
        SighGranary x = new SighGranary();
        for (int bin = 0; bin < 5; bin++) {
            Check.same("2: index", x.addBin(20 + bin, 'f'), bin);
            Check.same("6: binCount", x.binCount(), bin + 1);
        }
        Check.rejects("2: BIN_LIMIT", x, SighGranary.BIN_LIMIT, 5, () -> x.addBin(20, 'f'));
        x.addSack(3, 1, 1, 0);
        x.sell(3, 1);
        x.passMonths(24);
        Check.same("6: still five", x.binCount(), 5);
        for (int bin = 0; bin < 5; bin++) {
            Check.same("7: in the order in which they were added", x.capacityOf(bin), 20 + bin);
        }
    }

    // "at most 10 sacks"; "SACK_LIMIT = 2: Reason: there are 10 sacks in the bin. The detail is the index of the bin."
    private static void tenSacks() {
        SighGranary x = new SighGranary();
        x.addBin(400, 'f');
        x.addBin(400, 'f');
        for (int sack = 0; sack < 9; sack++) {
            x.addSack(1, 3, 2, 0);
        }
        x.addSack(0, 3, 2, 0);
        x.addSack(0, 3, 2, 0);
        Check.same("5: the tenth sack", x.moveSack(9, 1), 30);
        Check.rejects("5: the eleventh", x, SighGranary.SACK_LIMIT, 1, () -> x.moveSack(10, 1));
        Check.rejects("4: the eleventh", x, SighGranary.SACK_LIMIT, 1, () -> x.addSack(1, 1, 1, 0));
        x.sell(1, 2);
        Check.rejects("4: a lighter sack is still one", x, SighGranary.SACK_LIMIT, 1, () -> x.addSack(1, 1, 1, 0));
        x.sell(1, 1);
        Check.same("4: after one is sold", x.addSack(1, 1, 1, 0), 11);
        Check.rejects("4: ten again", x, SighGranary.SACK_LIMIT, 1, () -> x.addSack(1, 1, 1, 0));
        x.setMice(1, 3);
        x.passMonths(1);
        Check.same("5: after one is eaten", x.moveSack(10, 1), 28);
        Check.rejects("4: ten once more", x, SighGranary.SACK_LIMIT, 1, () -> x.addSack(1, 1, 1, 0));
        x.moveSack(11, 0);
        Check.same("4: after one is moved away", x.addSack(1, 1, 1, 0), 12);
    }

    // "which together weigh at most its capacity"; "OVERFULL = 3: [..] The detail is the weight that could still be
    // stored."
    private static void weightsUpToTheCapacity() {
        SighGranary x = granary(50, 'f', 30);
        x.addBin(60, 'f');
        x.addSack(1, 20, 1, 0);
        x.addSack(1, 21, 1, 0);
        Check.rejects("4: one too much", x, SighGranary.OVERFULL, 20, () -> x.addSack(0, 21, 1, 0));
        Check.rejects("5: one too much", x, SighGranary.OVERFULL, 20, () -> x.moveSack(2, 0));
        Check.same("5: as much as there is room for", x.moveSack(1, 0), 50);
        Check.rejects("4: full", x, SighGranary.OVERFULL, 0, () -> x.addSack(0, 1, 1, 0));
        x.undo();
        Check.same("4: as much as there is room for", x.addSack(0, 20, 1, 0), 3);
        Check.same("11: full", x.weightIn(0), 50);
    }

    // The room of a bin grows by all that leaves it.
    private static void roomAfterLosses() {
        SighGranary x = granary(20, 'f', 20);
        x.sell(0, 1);
        Check.rejects("4: after a sale", x, SighGranary.OVERFULL, 1, () -> x.addSack(0, 2, 1, 0));
        x.setMice(0, 3);
        x.passMonths(1);
        Check.rejects("4: after a meal", x, SighGranary.OVERFULL, 4, () -> x.addSack(0, 5, 1, 0));
        x.sift(0, 5);
        Check.rejects("4: after a sifting", x, SighGranary.OVERFULL, 12, () -> x.addSack(0, 13, 1, 0));
        Check.same("4: just full", x.addSack(0, 12, 1, 0), 1);
    }

    // "each further one the next greater id; ids are not used again"
    private static void idsAreNotUsedAgain() {
        SighGranary x = granary(20, 'f', 10, 10);
        Check.rejects("4: rejected", x, SighGranary.OVERFULL, 0, () -> x.addSack(0, 1, 1, 0));
        Check.fails("4: refused", IllegalArgumentException.class, () -> x.addSack(0, 0, 1, 0));
        x.sell(0, 20);
        Check.same("4: after the sacks are sold", x.addSack(0, 2, 1, 0), 2);
        x.setMice(0, 2);
        x.passMonths(1);
        Check.same("9: eaten", x.sackCount(0), 0);
        Check.same("4: after the sack is eaten", x.addSack(0, 2, 1, 0), 3);
    }

    // "A sack whose weight becomes 0 disappears."
    private static void emptySacksDisappear() {
        SighGranary x = granary(100, 'f', 10, 10, 10);
        x.sell(0, 9);
        Check.same("12: a kilogram is left by the sale", x.weightOf(0), 1);
        x.sell(0, 1);
        Check.fails("12: nothing is left", NONE, () -> x.weightOf(0));
        x.setMice(0, 9);
        x.passMonths(1);
        Check.same("12: a kilogram is left by the mice", x.weightOf(1), 1);
        x.setMice(0, 1);
        x.passMonths(1);
        Check.fails("12: nothing is left by them", NONE, () -> x.weightOf(1));
        Check.same("9: one sack", x.sackCount(0), 1);
        Check.same("10: it is the first now", x.sackAt(0, 0), 2);
        Check.fails("10: there is no second", NONE, () -> x.sackAt(0, 1));
        SighGranary light = granary(20, 'f', 1);
        light.sift(0, 9);
        Check.same("12: a sifted kilogram stays", light.weightOf(0), 1);
    }

    // The other sacks are as before, whichever one disappears.
    private static void otherSacksStay() {
        String[] due = {"#0:10*2g0@1 of month 0", "#1:11*4g3@1 of month 1", "#2:12*6g6@1 of month 2"};
        for (int gone = 0; gone < 3; gone++) {
            SighGranary x = new SighGranary();
            x.addBin(20, 'f');
            x.addBin(100, 'f');
            for (int sack = 0; sack < 3; sack++) {
                x.addSack(1, 10 + sack, 2 + 2 * sack, 3 * sack);
                x.passMonths(1);
            }
            x.moveSack(gone, 0);
            x.sell(0, 10 + gone);
            for (int other : new int[] {(gone + 1) % 3, (gone + 2) % 3}) {
                String text = Sight.ofSack(x, other) + " of month " + x.storedIn(other);
                Check.same("12 to 16: without sack " + gone, text, due[other]);
            }
        }
    }

    // What has disappeared has no part in anything that is asked or done later.
    private static void soldSacksCountNoMore() {
        for (int sold = 1; sold <= 4; sold++) {
            SighGranary x = granary(100, 'f', 10, 10, 10, 10);
            x.sell(0, 10 * sold);
            int left = 40 - 10 * sold;
            Check.same("9: sackCount", x.sackCount(0), 4 - sold);
            Check.same("11: weightIn", x.weightIn(0), left);
            Check.same("30: valueOf", x.valueOf(0), 2 * left);
            Check.same("31: valueTotal", x.valueTotal(), 2 * left);
            Check.same("43: weightTotal", x.weightTotal(), left);
            bothLoads(x, 400, 2 * left);
            Check.same("35: fairestSplit", x.fairestSplit(0), left % 20);
            Check.same("36: fairestSplitByTrying", x.fairestSplitByTrying(0), left % 20);
            Check.same("25: sift", x.sift(0, 5), left / 2);
            x.setMice(0, 20);
            Check.same("19: passMonths", x.passMonths(1), left / 2);
            Check.same("9: nothing is left", x.sackCount(0), 0);
            Check.same("32: valueByAccounts", x.valueByAccounts(), 0);
        }
    }

    // Five bins with ten sacks each: all that there can be.
    private static void fullGranary() {
        SighGranary x = new SighGranary();
        for (int bin = 0; bin < 5; bin++) {
            x.addBin(400, "flhfl".charAt(bin));
            for (int sack = 0; sack < 10; sack++) {
                Check.same("4: id", x.addSack(bin, 40, 1 + bin, 0), 10 * bin + sack);
            }
        }
        x.saveSnapshot();
        for (int bin = 0; bin < 5; bin++) {
            askFullBin(x, bin);
        }
        Check.same("31: valueTotal", x.valueTotal(), 400 * 15);
        Check.same("32: valueByAccounts", x.valueByAccounts(), 400 * 15);
        Check.same("43: weightTotal", x.weightTotal(), 2000);
        Check.same("46: meanPrice", x.meanPrice(), 3.0);
        Check.holds("49: isConsistent", x.isConsistent());
        for (int bin = 0; bin < 5; bin++) {
            emptyFullBin(x, bin);
        }
        Check.same("61: restoreSnapshot", x.restoreSnapshot(), 5);
        Check.same("43: full again", x.weightTotal(), 2000);
    }

    private static void askFullBin(SighGranary x, int bin) {
        Check.rejects("4: SACK_LIMIT", x, SighGranary.SACK_LIMIT, bin, () -> x.addSack(bin, 1, 1, 0));
        Check.rejects("5: SACK_LIMIT", x, SighGranary.SACK_LIMIT, bin, () -> x.moveSack((10 * bin + 10) % 50, bin));
        Check.same("9: sackCount", x.sackCount(bin), 10);
        Check.same("10: sackAt", x.sackAt(bin, 9), 10 * bin + ("flhfl".charAt(bin) == 'l' ? 0 : 9));
        Check.same("11: weightIn", x.weightIn(bin), 400);
        Check.same("16: binOf", x.binOf(10 * bin + 9), bin);
        Check.same("29: costOf", x.costOf(bin, 400), 400 * (1 + bin));
        Check.same("30: valueOf", x.valueOf(bin), 400 * (1 + bin));
        Check.same("33: bestLoad", x.bestLoad(bin, 200), 200 * (1 + bin));
        Check.same("34: bestLoadByTrying", x.bestLoadByTrying(bin, 200), 200 * (1 + bin));
        Check.same("35: fairestSplit", x.fairestSplit(bin), 0);
        Check.same("36: fairestSplitByTrying", x.fairestSplitByTrying(bin), 0);
        Check.same("48: binByValue", x.binByValue(bin), 4 - bin);
    }

    // Each change is made while all bins are full, and undone.
    private static void emptyFullBin(SighGranary x, int bin) {
        x.setMice(bin, 20);
        Check.same("24: monthsUntilEmpty", x.monthsUntilEmpty(bin), 20);
        Check.same("19: passMonths", x.passMonths(24), 400);
        Check.same("9: all is eaten", x.sackCount(bin), 0);
        x.undo();
        x.setMice(bin, 0);
        Check.same("25: sift", x.sift(bin, 9), 360);
        x.undo();
        Check.same("26: sell", x.sell(bin, 400), 4000);
        Check.same("9: all is sold", x.sackCount(bin), 0);
        x.undo();
        Check.same("11: full again", x.weightIn(bin), 400);
    }

    // "heaviest means the heavier sack first, and of sacks of the same weight the one with the lower id"
    private static void orderOfSacks() {
        SighGranary x = granary(400, 'h', 10, 11, 10);
        Check.same("10: a kilogram heavier", Sight.ofBin(x, 0), "h31/400 1 0 2");
        x.setMethod(0, 'f');
        x.sell(0, 10);
        x.sell(0, 1);
        x.setMethod(0, 'h');
        Check.same("10: of the same weight", Sight.ofBin(x, 0), "h20/400 1 2");
        x.setMice(0, 1);
        x.passMonths(1);
        Check.same("10: a kilogram lighter by a mouse", Sight.ofBin(x, 0), "h19/400m2 2 1");
        Check.fails("10: an empty bin has no first sack", NONE, () -> granary(20, 'h').sackAt(0, 0));
        Check.same("10: ten of the same weight", Sight.ofBin(granary(400, 'h', weights(10, 40)), 0),
                "h400/400 0 1 2 3 4 5 6 7 8 9");
        Check.same("10: the last of ten", Sight.ofBin(granary(400, 'l', weights(10, 40)), 0),
                "l400/400 9 8 7 6 5 4 3 2 1 0");
    }

    // "all of the first sack, then of the next one, and so on, until it has enough"
    private static void salesInOrder() {
        String[] left = {"f29/100 0 1 2", "f21/100 0 1 2", "f20/100 1 2", "f19/100 1 2", "f10/100 2", "f1/100 2",
            "f0/100"};
        int[] kilograms = {1, 9, 10, 11, 20, 29, 30};
        for (int sale = 0; sale < left.length; sale++) {
            SighGranary x = granary(100, 'f', 10, 10, 10);
            Check.same("29: its cost", x.costOf(0, kilograms[sale]), 2 * kilograms[sale]);
            Check.same("26: its coins", x.sell(0, kilograms[sale]), 10 * kilograms[sale]);
            Check.same("26: what it leaves", Sight.ofBin(x, 0), left[sale]);
        }
        SighGranary x = granary(100, 'f', 10);
        Check.rejects("26: TOO_LITTLE", x, SighGranary.TOO_LITTLE, 10, () -> x.sell(0, 11));
        Check.fails("29: too little", NONE, () -> x.costOf(0, 11));
        Check.fails("29: of an empty bin", NONE, () -> granary(20, 'f').costOf(0, 1));
    }

    // "with a mesh m that is greater than g [..] With any other mesh nothing happens to it."
    private static void siftingByGrade() {
        for (int grade = 0; grade <= 9; grade++) {
            for (int mesh = 1; mesh <= 9; mesh++) {
                SighGranary x = new SighGranary();
                x.addBin(100, 'f');
                x.addSack(0, 50, 2, grade);
                int chaff = mesh > grade ? 5 * (mesh - grade) : 0;
                Check.same("25: grade " + grade + ", mesh " + mesh, x.sift(0, mesh), chaff);
                Check.same("25: its weight", x.weightOf(0), 50 - chaff);
                Check.same("25: its grade", x.gradeOf(0), Math.max(mesh, grade));
            }
        }
    }

    // "w * (m - g) / 10 kilograms, rounded down"
    private static void siftingIsRoundedDown() {
        int[] weights = {1, 9, 10, 11, 19, 20, 29, 30, 59, 60};
        int[] chaff = {0, 0, 1, 1, 1, 2, 2, 3, 5, 6};
        for (int sack = 0; sack < weights.length; sack++) {
            SighGranary x = granary(100, 'f', weights[sack]);
            Check.same("25: chaff of " + weights[sack], x.sift(0, 1), chaff[sack]);
            Check.same("25: the grade all the same", x.gradeOf(0), 1);
        }
        Check.same("25: rounded sack by sack", granary(100, 'f', 19, 19, 19).sift(0, 1), 3);
        Check.same("25: 3 * 3 / 10", granary(100, 'f', 3).sift(0, 3), 0);
        Check.same("25: 2 * 5 / 10", granary(100, 'f', 2).sift(0, 5), 1);
        Check.same("25: 1 * 9 / 10", granary(100, 'f', 1).sift(0, 9), 0);
    }

    private static void siftingOfNothing() {
        SighGranary x = granary(20, 'f');
        Check.same("25: an empty bin", x.sift(0, 9), 0);
        Check.same("42: no chaff", x.chaffWeight(), 0);
    }

    // "its traps catch as many mice as there are traps, or all mice if there are fewer"
    private static void trapsAndMice() {
        for (int mice = 0; mice <= 20; mice++) {
            for (int traps = 0; traps <= 9; traps++) {
                SighGranary x = granary(400, 'f', weights(10, 40));
                x.setMice(0, mice);
                x.setTraps(0, traps);
                Check.same("19: " + mice + " mice, " + traps + " traps", x.passMonths(1), Math.max(0, mice - traps));
                Check.same("21: the traps stay", x.trapsIn(0), traps);
            }
        }
    }

    // "their number increases by its half, rounded up to a whole number if it is odd, but not above 20"
    private static void miceGrow() {
        int[] after = {0, 2, 3, 5, 6, 8, 9, 11, 12, 14, 15, 17, 18, 20, 20, 20, 20, 20, 20, 20, 20};
        for (int mice = 0; mice <= 20; mice++) {
            SighGranary x = granary(400, 'f', 60);
            x.setMice(0, mice);
            Check.same("19: eaten by " + mice, x.passMonths(1), mice);
            Check.same("19: mice after " + mice, x.miceIn(0), after[mice]);
            x.undo();
            Check.same("23: two months of " + mice, x.eatenWithin(0, 2), mice + after[mice]);
        }
    }

    // "until all have eaten or the bin is empty [..] Otherwise there are as many mice as kilograms were eaten."
    private static void miceStarve() {
        int[] grain = {5, 6, 7};
        int[] eaten = {5, 6, 6};
        int[] after = {5, 9, 9};
        for (int run = 0; run < grain.length; run++) {
            SighGranary x = granary(20, 'f', grain[run]);
            x.setMice(0, 6);
            Check.same("19: eaten of " + grain[run], x.passMonths(1), eaten[run]);
            Check.same("19: mice after it", x.miceIn(0), after[run]);
            Check.same("19: left", x.weightIn(0), grain[run] - eaten[run]);
        }
        SighGranary empty = granary(20, 'f');
        empty.setMice(0, 20);
        Check.same("19: an empty bin", empty.passMonths(1), 0);
        Check.same("19: nothing eaten, no mice", empty.miceIn(0), 0);
        SighGranary trapped = granary(20, 'f', 5);
        trapped.setMice(0, 9);
        trapped.setTraps(0, 4);
        Check.same("19: enough for those that are left", trapped.passMonths(1), 5);
        Check.same("19: they grow", trapped.miceIn(0), 8);
    }

    // "the mice eat from the sacks in the order of ids, whatever the method is"
    private static void miceEatAcrossSacks() {
        String[] left = {"21 0 1 2", "20 1 2", "19 1 2", "10 2"};
        int[] mice = {9, 10, 11, 20};
        for (char method : new char[] {'f', 'l', 'h'}) {
            for (int run = 0; run < mice.length; run++) {
                SighGranary x = granary(100, method, 10, 10, 10);
                x.setMice(0, mice[run]);
                x.passMonths(1);
                x.setMethod(0, 'f');
                x.setMice(0, 0);
                Check.same("19: " + mice[run] + " mice leave", Sight.ofBin(x, 0),
                        "f" + left[run].replaceFirst(" ", "/100 "));
            }
        }
    }

    // 19: "Lets months pass", several as one by one
    private static void monthsOneByOne() {
        for (int months = 1; months <= 24; months++) {
            SighGranary together = granary(400, 'h', weights(10, 30));
            together.setMice(0, 3);
            together.setTraps(0, 1);
            together.saveSnapshot();
            int eaten = together.passMonths(months);
            String due = Sight.ofData(together);
            together.restoreSnapshot();
            int oneByOne = 0;
            for (int month = 0; month < months; month++) {
                oneByOne += together.passMonths(1);
            }
            Check.same("19: eaten in " + months, eaten, oneByOne);
            Check.same("19: all else after " + months, due, Sight.ofData(together));
        }
        SighGranary bare = new SighGranary();
        Check.same("19: no bins, nothing eaten", bare.passMonths(24), 0);
        Check.same("22: but the months pass", bare.month(), 24);
    }

    // "The month of the year is the number of the month modulo 12."
    private static void monthsOfTheYear() {
        SighGranary x = granary(400, 'f', weights(10, 40));
        for (int month = 0; month < 12; month++) {
            x.setPrice(month, 1 + month);
        }
        for (int month = 0; month <= 60; month++) {
            Check.same("26: the price in month " + month, x.sell(0, 1), 1 + month % 12);
            x.passMonths(1);
        }
        for (int years = 0; years < 20; years++) {
            x.passMonths(24);
        }
        Check.same("22: the number goes on", x.month(), 541);
        Check.same("26: the price in month 541", x.sell(0, 1), 2);
        Check.same("4: stored then", x.storedIn(x.addSack(0, 1, 1, 1)), 541);
    }

    // 24: "0 if it is empty now", "if it would not be empty after 60 months"; 23: "0 to 60"
    private static void forecastsAtTheirEnds() {
        SighGranary empty = granary(20, 'f');
        empty.setMice(0, 20);
        Check.same("24: empty, with mice", empty.monthsUntilEmpty(0), 0);
        Check.same("23: nothing to eat", empty.eatenWithin(0, 60), 0);
        for (int weight = 58; weight <= 62; weight++) {
            SighGranary x = granary(100, 'f', 40, weight - 40);
            x.setMice(0, 2);
            x.setTraps(0, 1);
            Check.same("24: a kilogram a month of " + weight, Sight.answer(() -> x.monthsUntilEmpty(0)),
                    weight <= 60 ? Integer.toString(weight) : "NoSuchElementException");
            Check.same("23: in 59 months", x.eatenWithin(0, 59), Math.min(59, weight));
            Check.same("23: in 60 months", x.eatenWithin(0, 60), Math.min(60, weight));
        }
        for (int weight = 1; weight <= 60; weight++) {
            SighGranary x = granary(60, 'f', weight);
            x.setMice(0, 20);
            Check.same("24: twenty a month of " + weight, x.monthsUntilEmpty(0), (weight + 19) / 20);
        }
        SighGranary safe = granary(20, 'f', 1);
        safe.setMice(0, 9);
        safe.setTraps(0, 9);
        Check.fails("24: all mice are caught", NONE, () -> safe.monthsUntilEmpty(0));
        Check.same("23: none is left to eat", safe.eatenWithin(0, 60), 0);
    }

    private static void bothLoads(SighGranary x, int limit, int value) {
        Check.same("33: limit " + limit, x.bestLoad(0, limit), value);
        Check.same("34: limit " + limit, x.bestLoadByTrying(0, limit), value);
    }

    // 33: "whole sacks of a bin that together weigh at most a limit"
    private static void loadsAtTheirEnds() {
        bothLoads(granary(20, 'f'), 0, 0);
        bothLoads(granary(20, 'f'), 400, 0);
        SighGranary one = granary(60, 'f', 60);
        bothLoads(one, 0, 0);
        bothLoads(one, 59, 0);
        bothLoads(one, 60, 120);
        bothLoads(one, 61, 120);
        SighGranary full = granary(400, 'f', weights(10, 40));
        bothLoads(full, 399, 720);
        bothLoads(full, 400, 800);
        SighGranary light = granary(20, 'f', 1);
        bothLoads(light, 0, 0);
        bothLoads(light, 1, 2);
    }

    private static void bothSplits(int difference, int... weights) {
        SighGranary x = granary(400, 'f', weights);
        Check.same("35: fairestSplit", x.fairestSplit(0), difference);
        Check.same("36: fairestSplitByTrying", x.fairestSplitByTrying(0), difference);
    }

    // 35: "the smallest difference of the weights of two carts among which all sacks of a bin are divided"
    private static void splitsAtTheirEnds() {
        bothSplits(0);
        bothSplits(1, 1);
        bothSplits(60, 60);
        bothSplits(0, 60, 60);
        bothSplits(1, 60, 59);
        bothSplits(40, 40, 40, 40);
        bothSplits(0, 30, 20, 10);
        bothSplits(0, weights(10, 40));
        bothSplits(40, weights(9, 40));
        bothSplits(51, 60, 1, 1, 1, 1, 1, 1, 1, 1, 1);
    }

    // 37: "sells it in a later month"; "0 if no trade is worth while"; "at most some trades"
    private static void tradesAtTheEndsOfTheYear() {
        bothTrades(0, 1, new int[0]);
        bothTrades(0, 6, new int[] {0, 30, 11, 1});
        bothTrades(29, 1, new int[] {0, 1, 11, 30});
        bothTrades(1, 6, new int[] {11, 11});
        bothTrades(1, 6, new int[] {0, 9});
        bothTrades(20, 1, new int[] {1, 30});
        bothTrades(40, 2, new int[] {1, 30, 3, 30});
        bothTrades(20, 1, new int[] {1, 30, 3, 30});
        bothTrades(100, 6, new int[] {1, 30, 3, 30, 5, 30, 7, 30, 9, 30});
        bothTrades(100, 5, new int[] {1, 30, 3, 30, 5, 30, 7, 30, 9, 30});
        bothTrades(80, 4, new int[] {1, 30, 3, 30, 5, 30, 7, 30, 9, 30});
    }

    /** Pairs of a month and its price; the other months have the price 10. */
    private static void bothTrades(int profit, int trades, int[] prices) {
        SighGranary x = new SighGranary();
        for (int pair = 0; pair < prices.length; pair += 2) {
            x.setPrice(prices[pair], prices[pair + 1]);
        }
        Check.same("37: bestTrades", x.bestTrades(trades), profit);
        Check.same("38: bestTradesByTrying", x.bestTradesByTrying(trades), profit);
    }

    // 46: "if all bins are empty"; 47: "if no sack was stored"
    private static void accountsOfNothing() {
        Class<ArithmeticException> nothing = ArithmeticException.class;
        SighGranary x = new SighGranary();
        Check.fails("46: no bins", nothing, x::meanPrice);
        Check.fails("47: no bins", nothing, x::lossShare);
        Check.holds("49: no bins", x.isConsistent());
        x.addBin(20, 'f');
        x.addBin(20, 'f');
        Check.fails("46: empty bins", nothing, x::meanPrice);
        Check.fails("47: empty bins", nothing, x::lossShare);
        Check.holds("49: empty bins", x.isConsistent());
        x.addSack(1, 1, 30, 0);
        Check.same("46: a kilogram in one of two bins", x.meanPrice(), 30.0);
        Check.same("47: nothing is lost", x.lossShare(), 0f);
        x.setMice(1, 1);
        x.passMonths(1);
        Check.fails("46: empty again", nothing, x::meanPrice);
        Check.same("47: all is lost", x.lossShare(), 1f);
        x.undo();
        x.undo();
        x.undo();
        Check.fails("47: the storing is undone", nothing, x::lossShare);
    }

    // 48: "Of bins with the same value, the one with more weight comes first, then the one with the lower index."
    private static void valuesInEqualPlaces() {
        SighGranary x = new SighGranary();
        x.addBin(100, 'f');
        x.addBin(100, 'f');
        x.addSack(1, 10, 3, 0);
        Check.same("48: the greater value", x.binByValue(0), 1);
        x.addSack(0, 10, 3, 0);
        Check.same("48: the same value and weight", x.binByValue(0), 0);
        x.undo();
        x.addSack(0, 15, 2, 0);
        Check.same("48: the same value, more weight at 0", x.binByValue(0), 0);
        x.undo();
        x.addSack(0, 6, 5, 0);
        Check.same("48: the same value, more weight at 1", x.binByValue(0), 1);
        Check.same("48: the other one", x.binByValue(1), 0);
        x.undo();
        x.sell(1, 10);
        x.addSack(0, 2, 3, 0);
        x.addSack(1, 3, 2, 0);
        Check.same("48: the same value, a kilogram more at 1", x.binByValue(0), 1);
        x.undo();
        x.undo();
        x.undo();
        x.addSack(0, 1, 29, 0);
        Check.same("48: a coin less", x.binByValue(0), 1);
        x.undo();
        x.addSack(0, 2, 16, 0);
        Check.same("48: more, and lighter", x.binByValue(0), 0);
    }

    // 50: ""m" and the number of mice if there are some; "t" and the number of traps if there are some"
    private static void writtenNumbersOnlyIfSome() {
        String[] due = {"f0/20", "f0/20t1", "f0/20m1", "f0/20m1t1"};
        for (int run = 0; run < due.length; run++) {
            SighGranary x = granary(20, 'f');
            x.setMice(0, run / 2);
            x.setTraps(0, run % 2);
            Check.same("50: writeBin", Sight.ofBin(x, 0), due[run]);
        }
    }

    // 50: the most of everything; 52: "in place of the earlier output"
    private static void longestOutput() {
        SighGranary x = granary(400, 'l');
        for (int sack = 0; sack < 100; sack++) {
            x.addSack(0, 1, 1, 0);
            x.sell(0, 1);
        }
        for (int sack = 0; sack < 10; sack++) {
            x.addSack(0, 40, 1, 0);
        }
        x.setMice(0, 20);
        x.setTraps(0, 9);
        String due = "l400/400m20t9 109 108 107 106 105 104 103 102 101 100";
        Check.same("50: its length", x.writeBin(0), due.length());
        Check.same("50: its text", Sight.ofOutput(x), due);
        x.writeSack(109);
        Check.same("51: in its place", Sight.ofOutput(x), "#109:40*1g0@0");
        x.writeBin(0);
        Check.same("50: in place of that", Sight.ofOutput(x), due);
    }
}
