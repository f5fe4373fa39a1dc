import java.util.NoSuchElementException;

/** A granary with sacks in bins. What each call promises stands in ../shared/DOC.md. */
public final class SighGranary {
    public static final int BIN_LIMIT = 1;
    public static final int SACK_LIMIT = 2;
    public static final int OVERFULL = 3;
    public static final int SAME_BIN = 4;
    public static final int TOO_LITTLE = 5;
    public static final int COMMAND_REJECTED = 6;

    private static final int MOST_BINS = 5;
    private static final int MOST_SACKS_IN_BIN = 10;
    private static final int MOST_SACKS = MOST_BINS * MOST_SACKS_IN_BIN;
    private static final int LEAST_CAPACITY = 20;
    private static final int MOST_KILOGRAMS = 400;
    private static final int MOST_SACK_WEIGHT = 60;
    private static final int MOST_PRICE = 30;
    private static final int FIRST_PRICE = 10;
    private static final int MOST_GRADE = 9;
    private static final int MOST_MICE = 20;
    private static final int MOST_TRAPS = 9;
    private static final int MOST_MONTHS_AT_ONCE = 24;
    private static final int MOST_MONTHS_AHEAD = 60;
    private static final int YEAR = 12;
    private static final int MOST_TRADES = 6;
    private static final int MOST_INPUT = 60;
    private static final int MOST_UNDONE = 8;
    private static final int LEAST_CODE = 32;
    private static final int MOST_CODE = 126;

    private static final int NONE = -1;

    // What a judge says of a change: that it is fine, why its arguments are wrong,
    // or else the reason of its rejection, one of the public constants, which are above 0.
    private static final int FINE = 0;
    private static final int NO_BIN = -1;
    private static final int NO_SACK = -2;
    private static final int BAD_VALUE = -3;

    // The kinds of changes that a command can make; each is a public method too.
    private static final int NEW_BIN = 0;
    private static final int NEW_METHOD = 1;
    private static final int NEW_SACK = 2;
    private static final int NEW_PLACE = 3;
    private static final int NEW_MICE = 4;
    private static final int NEW_TRAPS = 5;
    private static final int NEW_PRICE = 6;
    private static final int SIFTING = 7;
    private static final int SALE = 8;
    private static final int MONTHS = 9;
    private static final int KINDS = 10;
    private static final int MOST_ARGUMENTS = 4;

    private final Data data;
    private final Data before;
    private final Data snapshot;
    private boolean hasSnapshot;
    private final History history;
    private final Judge judge;
    private final Plans plans;
    private final Script script;
    private final StringBuilder output;
    private int latestReason;
    private int latestDetail;
    private int latestCause;
    private int latestSyntaxError;

    public SighGranary() {
        data = new Data();
        before = new Data();
        snapshot = new Data();
        hasSnapshot = false;
        history = new History();
        judge = new Judge();
        plans = new Plans();
        script = new Script();
        output = new StringBuilder();
        latestReason = FINE;
        latestDetail = 0;
        latestCause = FINE;
        latestSyntaxError = NONE;
    }

    // ---- bins and sacks

    public int addBin(int capacity, char method) throws IllegalArgumentException, UnsupportedOperationException {
        return change(NEW_BIN, capacity, method, 0, 0);
    }

    public char setMethod(int bin, char method) throws IndexOutOfBoundsException, IllegalArgumentException {
        return (char) change(NEW_METHOD, bin, method, 0, 0);
    }

    public int addSack(int bin, int weight, int price, int grade)
            throws IndexOutOfBoundsException, IllegalArgumentException, UnsupportedOperationException {
        return change(NEW_SACK, bin, weight, price, grade);
    }

    public int moveSack(int sack, int bin)
            throws NoSuchElementException, IndexOutOfBoundsException, UnsupportedOperationException {
        return change(NEW_PLACE, sack, bin, 0, 0);
    }

    public int binCount() {
        return data.bins.count;
    }

    public int capacityOf(int bin) throws IndexOutOfBoundsException {
        requireBin(bin);
        return data.bins.capacity[bin];
    }

    public char methodOf(int bin) throws IndexOutOfBoundsException {
        requireBin(bin);
        return (char) data.bins.method[bin];
    }

    public int sackCount(int bin) throws IndexOutOfBoundsException {
        requireBin(bin);
        return data.sacks.numberIn(bin);
    }

    public int sackAt(int bin, int position) throws IndexOutOfBoundsException, NoSuchElementException {
        requireBin(bin);
        Order order = data.orderOf(bin);
        if (position < 0 || position >= order.count) {
            throw new NoSuchElementException();
        }
        return data.sacks.id[order.slots[position]];
    }

    public int weightIn(int bin) throws IndexOutOfBoundsException {
        requireBin(bin);
        return data.sacks.kilogramsIn(bin);
    }

    public int weightOf(int sack) throws NoSuchElementException {
        return data.sacks.weight[slotOfExisting(sack)];
    }

    public int priceOf(int sack) throws NoSuchElementException {
        return data.sacks.price[slotOfExisting(sack)];
    }

    public int gradeOf(int sack) throws NoSuchElementException {
        return data.sacks.grade[slotOfExisting(sack)];
    }

    public int storedIn(int sack) throws NoSuchElementException {
        return data.sacks.birth[slotOfExisting(sack)];
    }

    public int binOf(int sack) throws NoSuchElementException {
        return data.sacks.bin[slotOfExisting(sack)];
    }

    // ---- mice and months

    public int setMice(int bin, int mice) throws IndexOutOfBoundsException, IllegalArgumentException {
        return change(NEW_MICE, bin, mice, 0, 0);
    }

    public int setTraps(int bin, int traps) throws IndexOutOfBoundsException, IllegalArgumentException {
        return change(NEW_TRAPS, bin, traps, 0, 0);
    }

    public int passMonths(int months) throws IllegalArgumentException {
        return change(MONTHS, months, 0, 0, 0);
    }

    public int miceIn(int bin) throws IndexOutOfBoundsException {
        requireBin(bin);
        return data.bins.mice[bin];
    }

    public int trapsIn(int bin) throws IndexOutOfBoundsException {
        requireBin(bin);
        return data.bins.traps[bin];
    }

    public int month() {
        return data.month;
    }

    public int eatenWithin(int bin, int months) throws IndexOutOfBoundsException, IllegalArgumentException {
        requireBin(bin);
        requireWithin(months, 0, MOST_MONTHS_AHEAD);
        int traps = data.bins.traps[bin];
        int mice = data.bins.mice[bin];
        int weight = data.sacks.kilogramsIn(bin);
        int left = weight;
        for (int passed = 0; passed < months; passed++) {
            int hungry = Mice.leftBy(traps, mice);
            int eaten = Math.min(hungry, left);
            left -= eaten;
            mice = Mice.afterMeal(hungry, eaten);
        }
        return weight - left;
    }

    public int monthsUntilEmpty(int bin) throws IndexOutOfBoundsException, NoSuchElementException {
        requireBin(bin);
        int weight = data.sacks.kilogramsIn(bin);
        for (int months = 0; months <= MOST_MONTHS_AHEAD; months++) {
            if (eatenWithin(bin, months) == weight) {
                return months;
            }
        }
        throw new NoSuchElementException();
    }

    // ---- sifting and selling

    public int sift(int bin, int mesh) throws IndexOutOfBoundsException, IllegalArgumentException {
        return change(SIFTING, bin, mesh, 0, 0);
    }

    public int sell(int bin, int kilograms)
            throws IndexOutOfBoundsException, IllegalArgumentException, UnsupportedOperationException {
        return change(SALE, bin, kilograms, 0, 0);
    }

    public int setPrice(int month, int price) throws IllegalArgumentException {
        return change(NEW_PRICE, month, price, 0, 0);
    }

    public int priceIn(int month) throws IllegalArgumentException {
        requireWithin(month, 0, YEAR - 1);
        return data.prices[month];
    }

    public int costOf(int bin, int kilograms)
            throws IndexOutOfBoundsException, IllegalArgumentException, NoSuchElementException {
        requireBin(bin);
        requireWithin(kilograms, 1, MOST_KILOGRAMS);
        if (data.sacks.kilogramsIn(bin) < kilograms) {
            throw new NoSuchElementException();
        }
        Order order = data.orderOf(bin);
        int cost = 0;
        int left = kilograms;
        for (int position = 0; position < order.count; position++) {
            int slot = order.slots[position];
            int part = Math.min(left, data.sacks.weight[slot]);
            cost += part * data.sacks.price[slot];
            left -= part;
        }
        return cost;
    }

    // ---- values and plans

    public int valueOf(int bin) throws IndexOutOfBoundsException {
        requireBin(bin);
        return data.sacks.worthOf(bin);
    }

    public int valueTotal() {
        int value = 0;
        for (int slot = 0; slot < data.sacks.count; slot++) {
            value += data.sacks.weight[slot] * data.sacks.price[slot];
        }
        return value;
    }

    public int valueByAccounts() {
        return data.accounts.paid - data.accounts.costOfSold - data.accounts.costOfLost;
    }

    public int bestLoad(int bin, int limit) throws IndexOutOfBoundsException, IllegalArgumentException {
        requireBin(bin);
        requireWithin(limit, 0, MOST_KILOGRAMS);
        plans.gather(data.sacks, bin);
        return plans.loadByTable(limit);
    }

    public int bestLoadByTrying(int bin, int limit) throws IndexOutOfBoundsException, IllegalArgumentException {
        requireBin(bin);
        requireWithin(limit, 0, MOST_KILOGRAMS);
        plans.gather(data.sacks, bin);
        return plans.loadByTrying(limit);
    }

    public int fairestSplit(int bin) throws IndexOutOfBoundsException {
        requireBin(bin);
        plans.gather(data.sacks, bin);
        return plans.splitByTable();
    }

    public int fairestSplitByTrying(int bin) throws IndexOutOfBoundsException {
        requireBin(bin);
        plans.gather(data.sacks, bin);
        return plans.splitByTrying();
    }

    public int bestTrades(int trades) throws IllegalArgumentException {
        requireWithin(trades, 1, MOST_TRADES);
        return plans.tradesByTable(data.prices, trades);
    }

    public int bestTradesByTrying(int trades) throws IllegalArgumentException {
        requireWithin(trades, 1, MOST_TRADES);
        return Plans.tradesByTrying(data.prices, 0, trades);
    }

    // ---- accounts and orders

    public int storedWeight() {
        return data.accounts.stored;
    }

    public int soldWeight() {
        return data.accounts.sold;
    }

    public int eatenWeight() {
        return data.accounts.eaten;
    }

    public int chaffWeight() {
        return data.accounts.chaff;
    }

    public int weightTotal() {
        int weight = 0;
        for (int slot = 0; slot < data.sacks.count; slot++) {
            weight += data.sacks.weight[slot];
        }
        return weight;
    }

    public int revenue() {
        return data.accounts.received;
    }

    public int profit() {
        return data.accounts.received - data.accounts.costOfSold;
    }

    public double meanPrice() throws ArithmeticException {
        int weight = weightTotal();
        if (weight == 0) {
            throw new ArithmeticException();
        }
        return (double) valueTotal() / (double) weight;
    }

    public float lossShare() throws ArithmeticException {
        int stored = data.accounts.stored;
        if (stored == 0) {
            throw new ArithmeticException();
        }
        return (float) (data.accounts.eaten + data.accounts.chaff) / (float) stored;
    }

    public int binByValue(int position) throws NoSuchElementException {
        for (int bin = 0; bin < data.bins.count; bin++) {
            if (binsAheadOf(bin) == position) {
                return bin;
            }
        }
        throw new NoSuchElementException();
    }

    public boolean isConsistent() {
        return weightsAgree() && valueTotal() == valueByAccounts() && plansAgree() && tradesAgree();
    }

    // ---- text output

    public int writeBin(int bin) throws IndexOutOfBoundsException {
        requireBin(bin);
        output.setLength(0);
        output.append((char) data.bins.method[bin]);
        output.append(data.sacks.kilogramsIn(bin));
        output.append('/');
        output.append(data.bins.capacity[bin]);
        writeIfSome('m', data.bins.mice[bin]);
        writeIfSome('t', data.bins.traps[bin]);
        Order order = data.orderOf(bin);
        for (int position = 0; position < order.count; position++) {
            output.append(' ');
            output.append(data.sacks.id[order.slots[position]]);
        }
        return output.length();
    }

    public int writeSack(int sack) throws NoSuchElementException {
        int slot = slotOfExisting(sack);
        output.setLength(0);
        output.append('#');
        output.append(sack);
        output.append(':');
        output.append(data.sacks.weight[slot]);
        output.append('*');
        output.append(data.sacks.price[slot]);
        output.append('g');
        output.append(data.sacks.grade[slot]);
        output.append('@');
        output.append(data.sacks.bin[slot]);
        return output.length();
    }

    public char outputAt(int index) throws IndexOutOfBoundsException {
        if (index < 0 || index >= output.length()) {
            throw new IndexOutOfBoundsException();
        }
        return output.charAt(index);
    }

    // ---- commands

    public int appendInput(char character) throws IllegalArgumentException, IllegalStateException {
        requireWithin(character, LEAST_CODE, MOST_CODE);
        if (!script.append(character)) {
            throw new IllegalStateException();
        }
        return script.length;
    }

    public int execute() throws IllegalArgumentException, IllegalStateException, UnsupportedOperationException {
        boolean readable = script.read();
        script.clear();
        if (!readable) {
            latestSyntaxError = script.syntaxError;
            throw new IllegalArgumentException();
        }
        before.copyFrom(data);
        int latest = 0;
        int verdict = FINE;
        for (int command = 0; command < script.count && verdict == FINE; command++) {
            latest = command;
            verdict = carryOutCommand(command);
        }
        if (verdict != FINE) {
            data.copyFrom(before);
            failCommand(latest, verdict);
        }
        history.keep(before);
        return script.count;
    }

    public int syntaxErrorOffset() throws NoSuchElementException {
        if (latestSyntaxError == NONE) {
            throw new NoSuchElementException();
        }
        return latestSyntaxError;
    }

    // ---- rejections and history

    public int rejectionReason() throws NoSuchElementException {
        if (latestReason == FINE) {
            throw new NoSuchElementException();
        }
        return latestReason;
    }

    public int rejectionDetail() throws NoSuchElementException {
        if (latestReason == FINE) {
            throw new NoSuchElementException();
        }
        return latestDetail;
    }

    public int causeReason() throws NoSuchElementException {
        if (latestReason != COMMAND_REJECTED) {
            throw new NoSuchElementException();
        }
        return latestCause;
    }

    public int undo() throws IllegalStateException {
        if (history.count == 0) {
            throw new IllegalStateException();
        }
        history.takeBack(data);
        return history.count;
    }

    public int saveSnapshot() {
        snapshot.copyFrom(data);
        hasSnapshot = true;
        return data.bins.count;
    }

    public int restoreSnapshot() throws IllegalStateException {
        if (!hasSnapshot) {
            throw new IllegalStateException();
        }
        data.copyFrom(snapshot);
        history.clear();
        return data.bins.count;
    }

    // ---- helpers of the calls

    private static boolean isWithin(int value, int least, int most) {
        return value >= least && value <= most;
    }

    private static void requireWithin(int value, int least, int most) {
        if (!isWithin(value, least, most)) {
            throw new IllegalArgumentException();
        }
    }

    private void requireBin(int bin) {
        if (!data.bins.has(bin)) {
            throw new IndexOutOfBoundsException();
        }
    }

    private int slotOfExisting(int sack) {
        int slot = data.sacks.slotOf(sack);
        if (slot == NONE) {
            throw new NoSuchElementException();
        }
        return slot;
    }

    private int change(int kind, int a, int b, int c, int d) {
        int verdict = judge.verdict(data, kind, a, b, c, d);
        if (verdict != FINE) {
            fail(verdict);
        }
        history.keep(data);
        return data.carryOut(kind, a, b, c, d);
    }

    private void fail(int verdict) {
        if (verdict == NO_BIN) {
            throw new IndexOutOfBoundsException();
        }
        if (verdict == NO_SACK) {
            throw new NoSuchElementException();
        }
        if (verdict == BAD_VALUE) {
            throw new IllegalArgumentException();
        }
        reject(verdict, judge.detail, FINE);
    }

    private void failCommand(int command, int verdict) {
        if (verdict < FINE) {
            throw new IllegalStateException();
        }
        reject(COMMAND_REJECTED, command, verdict);
    }

    private void reject(int reason, int detail, int cause) {
        latestReason = reason;
        latestDetail = detail;
        latestCause = cause;
        throw new UnsupportedOperationException();
    }

    private int carryOutCommand(int command) {
        int kind = script.kinds[command];
        int a = script.argument(command, 0);
        int b = script.argument(command, 1);
        int c = script.argument(command, 2);
        int d = script.argument(command, 3);
        int verdict = judge.verdict(data, kind, a, b, c, d);
        if (verdict == FINE) {
            data.carryOut(kind, a, b, c, d);
        }
        return verdict;
    }

    private int binsAheadOf(int bin) {
        int ahead = 0;
        for (int other = 0; other < data.bins.count; other++) {
            if (isAhead(other, bin)) {
                ahead++;
            }
        }
        return ahead;
    }

    private boolean isAhead(int bin, int other) {
        int moreValue = data.sacks.worthOf(bin) - data.sacks.worthOf(other);
        if (moreValue != 0) {
            return moreValue > 0;
        }
        int moreWeight = data.sacks.kilogramsIn(bin) - data.sacks.kilogramsIn(other);
        if (moreWeight != 0) {
            return moreWeight > 0;
        }
        return bin < other;
    }

    private boolean weightsAgree() {
        Accounts accounts = data.accounts;
        return accounts.stored == accounts.sold + accounts.eaten + accounts.chaff + weightTotal();
    }

    private boolean plansAgree() {
        for (int bin = 0; bin < data.bins.count; bin++) {
            int limit = data.bins.capacity[bin] / 2;
            plans.gather(data.sacks, bin);
            if (plans.loadByTable(limit) != plans.loadByTrying(limit)
                    || plans.splitByTable() != plans.splitByTrying()) {
                return false;
            }
        }
        return true;
    }

    private boolean tradesAgree() {
        for (int trades = 1; trades <= MOST_TRADES; trades++) {
            if (plans.tradesByTable(data.prices, trades) != Plans.tradesByTrying(data.prices, 0, trades)) {
                return false;
            }
        }
        return true;
    }

    private void writeIfSome(char letter, int number) {
        if (number > 0) {
            output.append(letter);
            output.append(number);
        }
    }

    /** The bins, by their indices. */
    private static final class Bins {
        final int[] capacity = new int[MOST_BINS];
        final int[] method = new int[MOST_BINS];
        final int[] mice = new int[MOST_BINS];
        final int[] traps = new int[MOST_BINS];
        int count = 0;

        boolean has(int bin) {
            return bin >= 0 && bin < count;
        }

        int put(int newCapacity, int newMethod) {
            int bin = count;
            capacity[bin] = newCapacity;
            method[bin] = newMethod;
            mice[bin] = 0;
            traps[bin] = 0;
            count++;
            return bin;
        }

        void copyFrom(Bins other) {
            System.arraycopy(other.capacity, 0, capacity, 0, MOST_BINS);
            System.arraycopy(other.method, 0, method, 0, MOST_BINS);
            System.arraycopy(other.mice, 0, mice, 0, MOST_BINS);
            System.arraycopy(other.traps, 0, traps, 0, MOST_BINS);
            count = other.count;
        }
    }

    /** The sacks of all bins, in slots without gaps, always in the order of their ids. */
    private static final class Sacks {
        final int[] id = new int[MOST_SACKS];
        final int[] weight = new int[MOST_SACKS];
        final int[] price = new int[MOST_SACKS];
        final int[] grade = new int[MOST_SACKS];
        final int[] birth = new int[MOST_SACKS];
        final int[] bin = new int[MOST_SACKS];
        int count = 0;
        int nextId = 0;

        int slotOf(int sack) {
            for (int slot = 0; slot < count; slot++) {
                if (id[slot] == sack) {
                    return slot;
                }
            }
            return NONE;
        }

        int numberIn(int place) {
            int number = 0;
            for (int slot = 0; slot < count; slot++) {
                if (bin[slot] == place) {
                    number++;
                }
            }
            return number;
        }

        int kilogramsIn(int place) {
            int kilograms = 0;
            for (int slot = 0; slot < count; slot++) {
                if (bin[slot] == place) {
                    kilograms += weight[slot];
                }
            }
            return kilograms;
        }

        int worthOf(int place) {
            int worth = 0;
            for (int slot = 0; slot < count; slot++) {
                if (bin[slot] == place) {
                    worth += weight[slot] * price[slot];
                }
            }
            return worth;
        }

        int put(int newBin, int newWeight, int newPrice, int newGrade, int month) {
            int slot = count;
            id[slot] = nextId;
            weight[slot] = newWeight;
            price[slot] = newPrice;
            grade[slot] = newGrade;
            birth[slot] = month;
            bin[slot] = newBin;
            count++;
            nextId++;
            return id[slot];
        }

        /** Takes kilograms out of a sack and answers what was paid for them. */
        int take(int slot, int kilograms) {
            weight[slot] -= kilograms;
            return kilograms * price[slot];
        }

        void dropEmpty() {
            int kept = 0;
            for (int slot = 0; slot < count; slot++) {
                if (weight[slot] > 0) {
                    copySlot(slot, kept);
                    kept++;
                }
            }
            count = kept;
        }

        private void copySlot(int from, int to) {
            id[to] = id[from];
            weight[to] = weight[from];
            price[to] = price[from];
            grade[to] = grade[from];
            birth[to] = birth[from];
            bin[to] = bin[from];
        }

        void copyFrom(Sacks other) {
            System.arraycopy(other.id, 0, id, 0, MOST_SACKS);
            System.arraycopy(other.weight, 0, weight, 0, MOST_SACKS);
            System.arraycopy(other.price, 0, price, 0, MOST_SACKS);
            System.arraycopy(other.grade, 0, grade, 0, MOST_SACKS);
            System.arraycopy(other.birth, 0, birth, 0, MOST_SACKS);
            System.arraycopy(other.bin, 0, bin, 0, MOST_SACKS);
            count = other.count;
            nextId = other.nextId;
        }
    }

    /** Kilograms and coins since the beginning. */
    private static final class Accounts {
        int stored = 0;
        int sold = 0;
        int eaten = 0;
        int chaff = 0;
        int received = 0;
        int paid = 0;
        int costOfSold = 0;
        int costOfLost = 0;

        void copyFrom(Accounts other) {
            stored = other.stored;
            sold = other.sold;
            eaten = other.eaten;
            chaff = other.chaff;
            received = other.received;
            paid = other.paid;
            costOfSold = other.costOfSold;
            costOfLost = other.costOfLost;
        }
    }

    /** All that undo and the snapshot cover, and the changes of it. */
    private static final class Data {
        final Bins bins = new Bins();
        final Sacks sacks = new Sacks();
        final Accounts accounts = new Accounts();
        final int[] prices = new int[YEAR];
        int month = 0;
        private final Order order = new Order();

        Data() {
            for (int index = 0; index < YEAR; index++) {
                prices[index] = FIRST_PRICE;
            }
        }

        void copyFrom(Data other) {
            bins.copyFrom(other.bins);
            sacks.copyFrom(other.sacks);
            accounts.copyFrom(other.accounts);
            System.arraycopy(other.prices, 0, prices, 0, YEAR);
            month = other.month;
        }

        /** The order of a bin's sacks, good until the next one is asked. */
        Order orderOf(int bin) {
            order.gather(sacks, bin);
            if (bins.method[bin] == 'l') {
                order.reverse();
            }
            if (bins.method[bin] == 'h') {
                order.sortByWeight(sacks.weight);
            }
            return order;
        }

        /** Makes a change that the judge has found fine. */
        int carryOut(int kind, int a, int b, int c, int d) {
            switch (kind) {
                case NEW_BIN:
                    return bins.put(a, b);
                case NEW_METHOD:
                    return replace(bins.method, a, b);
                case NEW_SACK:
                    return store(a, b, c, d);
                case NEW_PLACE:
                    return relocate(a, b);
                case NEW_MICE:
                    return replace(bins.mice, a, b);
                case NEW_TRAPS:
                    return replace(bins.traps, a, b);
                case NEW_PRICE:
                    return replace(prices, a, b);
                case SIFTING:
                    return siftAll(a, b);
                case SALE:
                    return sellFrom(a, b);
                case MONTHS:
                    return letPass(a);
                default:
                    return 0;
            }
        }

        private static int replace(int[] row, int index, int value) {
            int previous = row[index];
            row[index] = value;
            return previous;
        }

        private int store(int bin, int weight, int price, int grade) {
            accounts.stored += weight;
            accounts.paid += weight * price;
            return sacks.put(bin, weight, price, grade, month);
        }

        private int relocate(int sack, int bin) {
            int slot = sacks.slotOf(sack);
            if (slot != NONE) {
                sacks.bin[slot] = bin;
            }
            return sacks.kilogramsIn(bin);
        }

        // No sack can get empty here: it loses at most nine tenths.
        private int siftAll(int bin, int mesh) {
            int chaff = 0;
            for (int slot = 0; slot < sacks.count; slot++) {
                if (sacks.bin[slot] == bin && mesh > sacks.grade[slot]) {
                    int lost = sacks.weight[slot] * (mesh - sacks.grade[slot]) / 10;
                    accounts.costOfLost += sacks.take(slot, lost);
                    sacks.grade[slot] = mesh;
                    chaff += lost;
                }
            }
            accounts.chaff += chaff;
            return chaff;
        }

        private int sellFrom(int bin, int kilograms) {
            Order order = orderOf(bin);
            int left = kilograms;
            for (int position = 0; position < order.count; position++) {
                int slot = order.slots[position];
                int part = Math.min(left, sacks.weight[slot]);
                accounts.costOfSold += sacks.take(slot, part);
                left -= part;
            }
            sacks.dropEmpty();
            int coins = kilograms * prices[Math.floorMod(month, YEAR)];
            accounts.sold += kilograms;
            accounts.received += coins;
            return coins;
        }

        private int letPass(int months) {
            int eaten = 0;
            for (int passed = 0; passed < months; passed++) {
                month++;
                for (int bin = 0; bin < bins.count; bin++) {
                    eaten += feedMice(bin);
                }
            }
            accounts.eaten += eaten;
            return eaten;
        }

        private int feedMice(int bin) {
            int hungry = Mice.leftBy(bins.traps[bin], bins.mice[bin]);
            int eaten = Math.min(hungry, sacks.kilogramsIn(bin));
            eat(bin, eaten);
            bins.mice[bin] = Mice.afterMeal(hungry, eaten);
            return eaten;
        }

        private void eat(int bin, int kilograms) {
            int left = kilograms;
            for (int slot = 0; slot < sacks.count; slot++) {
                if (sacks.bin[slot] == bin) {
                    int part = Math.min(left, sacks.weight[slot]);
                    accounts.costOfLost += sacks.take(slot, part);
                    left -= part;
                }
            }
            sacks.dropEmpty();
        }
    }

    /** The data before each of the latest changes: a ring, so that the oldest makes room. */
    private static final class History {
        private final Data[] kept = new Data[MOST_UNDONE];
        private int next = 0;
        int count = 0;

        History() {
            for (int index = 0; index < MOST_UNDONE; index++) {
                kept[index] = new Data();
            }
        }

        void keep(Data data) {
            kept[next].copyFrom(data);
            next = (next + 1) % MOST_UNDONE;
            count = Math.min(count + 1, MOST_UNDONE);
        }

        void takeBack(Data data) {
            next = (next + MOST_UNDONE - 1) % MOST_UNDONE;
            data.copyFrom(kept[next]);
            count--;
        }

        void clear() {
            count = 0;
        }
    }

    /** The slots of the sacks of one bin in some order; in the order of ids at first. */
    private static final class Order {
        final int[] slots = new int[MOST_SACKS_IN_BIN];
        int count = 0;

        void gather(Sacks sacks, int bin) {
            count = 0;
            for (int slot = 0; slot < sacks.count; slot++) {
                if (sacks.bin[slot] == bin && count < MOST_SACKS_IN_BIN) {
                    slots[count] = slot;
                    count++;
                }
            }
        }

        void reverse() {
            for (int left = 0; left < count / 2; left++) {
                int right = count - 1 - left;
                int slot = slots[left];
                slots[left] = slots[right];
                slots[right] = slot;
            }
        }

        // A slot moves only ahead of lighter ones, so that the lower id stays ahead among equals.
        void sortByWeight(int[] weight) {
            for (int sorted = 1; sorted < count; sorted++) {
                int slot = slots[sorted];
                int place = sorted;
                while (place > 0 && weight[slots[place - 1]] < weight[slot]) {
                    slots[place] = slots[place - 1];
                    place--;
                }
                slots[place] = slot;
            }
        }
    }

    /** What mice do in a month. */
    private static final class Mice {
        static int leftBy(int traps, int mice) {
            return mice - Math.min(traps, mice);
        }

        static int afterMeal(int hungry, int eaten) {
            if (eaten < hungry) {
                return eaten;
            }
            return Math.min(hungry + (hungry + 1) / 2, MOST_MICE);
        }
    }

    /** Says whether a change can be made, and if not, why; changes nothing but its detail. */
    private static final class Judge {
        int detail = 0;

        int verdict(Data data, int kind, int a, int b, int c, int d) {
            switch (kind) {
                case NEW_BIN:
                    return judgeBin(data, a, b);
                case NEW_METHOD:
                    return judgeInBin(data, a, isMethod(b));
                case NEW_SACK:
                    return judgeSack(data, a, b, c, d);
                case NEW_PLACE:
                    return judgeMove(data, a, b);
                case NEW_MICE:
                    return judgeInBin(data, a, isWithin(b, 0, MOST_MICE));
                case NEW_TRAPS:
                    return judgeInBin(data, a, isWithin(b, 0, MOST_TRAPS));
                case NEW_PRICE:
                    return judgeValues(isWithin(a, 0, YEAR - 1) && isWithin(b, 1, MOST_PRICE));
                case SIFTING:
                    return judgeInBin(data, a, isWithin(b, 1, MOST_GRADE));
                case SALE:
                    return judgeSale(data, a, b);
                case MONTHS:
                    return judgeValues(isWithin(a, 1, MOST_MONTHS_AT_ONCE));
                default:
                    return BAD_VALUE;
            }
        }

        private static boolean isMethod(int method) {
            return method == 'f' || method == 'l' || method == 'h';
        }

        private static int judgeValues(boolean valid) {
            return valid ? FINE : BAD_VALUE;
        }

        private static int judgeInBin(Data data, int bin, boolean valid) {
            return data.bins.has(bin) ? judgeValues(valid) : NO_BIN;
        }

        private int judgeBin(Data data, int capacity, int method) {
            if (!isWithin(capacity, LEAST_CAPACITY, MOST_KILOGRAMS) || !isMethod(method)) {
                return BAD_VALUE;
            }
            return data.bins.count < MOST_BINS ? FINE : rejected(BIN_LIMIT, MOST_BINS);
        }

        private int judgeSack(Data data, int bin, int weight, int price, int grade) {
            int verdict = judgeInBin(data, bin, isWithin(weight, 1, MOST_SACK_WEIGHT)
                    && isWithin(price, 1, MOST_PRICE) && isWithin(grade, 0, MOST_GRADE));
            return verdict == FINE ? judgeRoom(data, bin, weight) : verdict;
        }

        private int judgeMove(Data data, int sack, int bin) {
            int slot = data.sacks.slotOf(sack);
            if (slot == NONE) {
                return NO_SACK;
            }
            if (!data.bins.has(bin)) {
                return NO_BIN;
            }
            if (data.sacks.bin[slot] == bin) {
                return rejected(SAME_BIN, bin);
            }
            return judgeRoom(data, bin, data.sacks.weight[slot]);
        }

        private int judgeRoom(Data data, int bin, int weight) {
            if (data.sacks.numberIn(bin) >= MOST_SACKS_IN_BIN) {
                return rejected(SACK_LIMIT, bin);
            }
            int room = data.bins.capacity[bin] - data.sacks.kilogramsIn(bin);
            return weight <= room ? FINE : rejected(OVERFULL, room);
        }

        private int judgeSale(Data data, int bin, int kilograms) {
            int verdict = judgeInBin(data, bin, isWithin(kilograms, 1, MOST_KILOGRAMS));
            if (verdict != FINE) {
                return verdict;
            }
            int weight = data.sacks.kilogramsIn(bin);
            return kilograms <= weight ? FINE : rejected(TOO_LITTLE, weight);
        }

        private int rejected(int reason, int itsDetail) {
            detail = itsDetail;
            return reason;
        }
    }

    /** Best loads, fairest splits and best trades, each in two ways, in rows that are used again. */
    private static final class Plans {
        private final int[] weights = new int[MOST_SACKS_IN_BIN];
        private final int[] values = new int[MOST_SACKS_IN_BIN];
        private int count = 0;
        private int total = 0;
        private final int[] best = new int[MOST_KILOGRAMS + 1];
        private final boolean[] possible = new boolean[MOST_KILOGRAMS + 1];
        private final int[] idle = new int[MOST_TRADES + 1];
        private final int[] holding = new int[MOST_TRADES + 1];

        /** Takes up the sacks of a bin, for the loads and splits that are asked next. */
        void gather(Sacks sacks, int bin) {
            count = 0;
            total = 0;
            for (int slot = 0; slot < sacks.count; slot++) {
                if (sacks.bin[slot] == bin && count < MOST_SACKS_IN_BIN) {
                    weights[count] = sacks.weight[slot];
                    values[count] = sacks.weight[slot] * sacks.price[slot];
                    total += weights[count];
                    count++;
                }
            }
        }

        int loadByTable(int limit) {
            for (int weight = 0; weight <= limit; weight++) {
                best[weight] = 0;
            }
            for (int sack = 0; sack < count; sack++) {
                for (int weight = limit; weight >= weights[sack]; weight--) {
                    best[weight] = Math.max(best[weight], best[weight - weights[sack]] + values[sack]);
                }
            }
            return best[limit];
        }

        int loadByTrying(int limit) {
            int most = 0;
            for (int set = 0; set < 1 << count; set++) {
                if (sumOf(weights, set) <= limit) {
                    most = Math.max(most, sumOf(values, set));
                }
            }
            return most;
        }

        int splitByTable() {
            for (int weight = 0; weight <= total; weight++) {
                possible[weight] = weight == 0;
            }
            for (int sack = 0; sack < count; sack++) {
                for (int weight = total; weight >= weights[sack]; weight--) {
                    possible[weight] = possible[weight] || possible[weight - weights[sack]];
                }
            }
            int least = total;
            for (int weight = 0; weight <= total; weight++) {
                if (possible[weight]) {
                    least = Math.min(least, Math.abs(total - 2 * weight));
                }
            }
            return least;
        }

        int splitByTrying() {
            int least = total;
            for (int set = 0; set < 1 << count; set++) {
                least = Math.min(least, Math.abs(total - 2 * sumOf(weights, set)));
            }
            return least;
        }

        private int sumOf(int[] row, int set) {
            int sum = 0;
            for (int sack = 0; sack < count; sack++) {
                if ((set >> sack & 1) == 1) {
                    sum += row[sack];
                }
            }
            return sum;
        }

        // By the number of trades that have ended: the most coins with no kilogram in hand, and with one.
        int tradesByTable(int[] prices, int trades) {
            for (int ended = 0; ended <= trades; ended++) {
                idle[ended] = 0;
                holding[ended] = -prices[0];
            }
            for (int month = 1; month < YEAR; month++) {
                for (int ended = 0; ended <= trades; ended++) {
                    if (ended > 0) {
                        idle[ended] = Math.max(idle[ended], holding[ended - 1] + prices[month]);
                    }
                    holding[ended] = Math.max(holding[ended], idle[ended] - prices[month]);
                }
            }
            return idle[trades];
        }

        private static int tradesByTrying(int[] prices, int from, int trades) {
            if (trades <= 0) {
                return 0;
            }
            int most = 0;
            for (int buying = from; buying < YEAR; buying++) {
                for (int selling = buying + 1; selling < YEAR; selling++) {
                    int gain = prices[selling] - prices[buying];
                    most = Math.max(most, gain + tradesByTrying(prices, selling, trades - 1));
                }
            }
            return most;
        }
    }

    /** The input, and the commands that were read from it last. */
    private static final class Script {
        private final char[] text = new char[MOST_INPUT];
        int length = 0;
        final int[] kinds = new int[MOST_INPUT];
        private final int[] arguments = new int[MOST_INPUT * MOST_ARGUMENTS];
        int count = 0;
        int syntaxError = NONE;

        boolean append(char character) {
            if (length >= MOST_INPUT) {
                return false;
            }
            text[length] = character;
            length++;
            return true;
        }

        void clear() {
            length = 0;
        }

        int argument(int command, int index) {
            return arguments[command * MOST_ARGUMENTS + index];
        }

        /** Reads the commands of the input; answers false if there is a syntax error. */
        boolean read() {
            count = 0;
            int start = 0;
            while (count < MOST_INPUT) {
                int end = readCommand(start);
                if (end < 0) {
                    syntaxError = ~end;
                    return false;
                }
                count++;
                if (end == length) {
                    return true;
                }
                start = end + 1;
            }
            return false;
        }

        // Answers the offset of the command's end, or ~offset of the first character that fits no form.
        private int readCommand(int start) {
            int furthest = start;
            for (int kind = 0; kind < KINDS; kind++) {
                int end = match(formOf(kind), start);
                if (end >= 0) {
                    kinds[count] = kind;
                    return end;
                }
                furthest = Math.max(furthest, ~end);
            }
            return ~furthest;
        }

        // In a form, N stands for a number, D for a digit and M for a method.
        private static String formOf(int kind) {
            switch (kind) {
                case NEW_BIN:
                    return "bin N M";
                case NEW_METHOD:
                    return "method D M";
                case NEW_SACK:
                    return "sack D N N D";
                case NEW_PLACE:
                    return "move N D";
                case NEW_MICE:
                    return "mice D N";
                case NEW_TRAPS:
                    return "traps D D";
                case NEW_PRICE:
                    return "price N N";
                case SIFTING:
                    return "sift D D";
                case SALE:
                    return "sell D N";
                default:
                    return "months N";
            }
        }

        private int match(String form, int start) {
            int at = start;
            int index = 0;
            for (int part = 0; part < form.length(); part++) {
                char sign = form.charAt(part);
                int end = endOf(sign, at);
                if (end == at) {
                    return ~at;
                }
                if (sign == 'N' || sign == 'D' || sign == 'M') {
                    setArgument(index, sign == 'M' ? text[at] : number(at, end));
                    index++;
                }
                at = end;
            }
            return at == length || text[at] == ';' ? at : ~at;
        }

        private void setArgument(int index, int value) {
            if (index < MOST_ARGUMENTS) {
                arguments[count * MOST_ARGUMENTS + index] = value;
            }
        }

        // Answers the same offset if what is there does not fit the sign.
        private int endOf(char sign, int at) {
            if (sign == 'N') {
                return endOfDigits(at, 3);
            }
            if (sign == 'D') {
                return endOfDigits(at, 1);
            }
            boolean fits = sign == 'M' ? holds('f', at) || holds('l', at) || holds('h', at) : holds(sign, at);
            return fits ? at + 1 : at;
        }

        private boolean holds(char character, int at) {
            return at < length && text[at] == character;
        }

        private int endOfDigits(int at, int most) {
            int end = at;
            while (end < length && end < at + most && text[end] >= '0' && text[end] <= '9') {
                end++;
            }
            return end;
        }

        private int number(int from, int end) {
            int number = 0;
            for (int at = from; at < end; at++) {
                number = number * 10 + (text[at] - '0');
            }
            return number;
        }
    }
}
