import java.util.ArrayDeque;
import java.util.ArrayList;
import java.util.Arrays;
import java.util.Comparator;
import java.util.Deque;
import java.util.List;
import java.util.NoSuchElementException;
import java.util.regex.Matcher;
import java.util.regex.Pattern;

/** The document once more, written with lists and the Java library, to compare random runs with. */
final class Model {
    private static final String NUMBER = "([0-9]{1,3})";
    private static final String DIGIT = "([0-9])";
    private static final String[] FORMS = {"bin " + NUMBER + " ([flh])", "method " + DIGIT + " ([flh])",
        "sack " + DIGIT + " " + NUMBER + " " + NUMBER + " " + DIGIT, "move " + NUMBER + " " + DIGIT,
        "mice " + DIGIT + " " + NUMBER, "traps " + DIGIT + " " + DIGIT, "price " + NUMBER + " " + NUMBER,
        "sift " + DIGIT + " " + DIGIT, "sell " + DIGIT + " " + NUMBER, "months " + NUMBER};
    private static final String COMMAND = "(?:" + String.join("|", FORMS) + ")";
    private static final Pattern INPUT = Pattern.compile(COMMAND + "(?:;" + COMMAND + ")*");

    record Sack(int id, int weight, int price, int grade, int month, int bin) {
        Sack lighter(int by) {
            return new Sack(id, weight - by, price, grade, month, bin);
        }
    }

    record Bin(int capacity, char method, int mice, int traps) {
    }

    static final class State {
        final List<Bin> bins = new ArrayList<>();
        final List<Sack> sacks = new ArrayList<>();
        int[] prices = new int[12];
        int month;
        int nextId;
        int stored;
        int sold;
        int eaten;
        int chaff;
        int revenue;
        int costOfSold;

        State copy() {
            State copy = new State();
            copy.bins.addAll(bins);
            copy.sacks.addAll(sacks);
            copy.prices = prices.clone();
            copy.month = month;
            copy.nextId = nextId;
            copy.stored = stored;
            copy.sold = sold;
            copy.eaten = eaten;
            copy.chaff = chaff;
            copy.revenue = revenue;
            copy.costOfSold = costOfSold;
            return copy;
        }
    }

    State now = new State();
    private State saved;
    private final Deque<State> past = new ArrayDeque<>();
    private String input = "";
    int reason;
    int detail;
    int cause;
    int syntaxError = -1;

    Model() {
        Arrays.fill(now.prices, 10);
    }

    /** Makes a change, by its name in the document, and answers what its call answers. */
    int change(String name, int... a) {
        State before = now.copy();
        int answer;
        try {
            answer = make(name, a);
        } catch (RuntimeException failed) {
            now = before;
            throw failed;
        }
        remember(before);
        return answer;
    }

    private void remember(State before) {
        past.push(before);
        if (past.size() > 8) {
            past.removeLast();
        }
    }

    private int make(String name, int[] a) {
        return switch (name) {
            case "addBin" -> addBin(a[0], (char) a[1]);
            case "setMethod" -> setMethod(a[0], (char) a[1]);
            case "addSack" -> addSack(a[0], a[1], a[2], a[3]);
            case "moveSack" -> moveSack(a[0], a[1]);
            case "setMice" -> setMice(a[0], a[1]);
            case "setTraps" -> setTraps(a[0], a[1]);
            case "passMonths" -> passMonths(a[0]);
            case "sift" -> sift(a[0], a[1]);
            case "sell" -> sell(a[0], a[1]);
            case "setPrice" -> setPrice(a[0], a[1]);
            default -> throw new AssertionError(name);
        };
    }

    private void reject(int itsReason, int itsDetail) {
        reason = itsReason;
        detail = itsDetail;
        cause = 0;
        throw new UnsupportedOperationException();
    }

    private static void valid(boolean holds) {
        if (!holds) {
            throw new IllegalArgumentException();
        }
    }

    Bin bin(int bin) {
        if (bin < 0 || bin >= now.bins.size()) {
            throw new IndexOutOfBoundsException();
        }
        return now.bins.get(bin);
    }

    Sack sack(int id) {
        return now.sacks.stream().filter(sack -> sack.id == id).findFirst().orElseThrow(NoSuchElementException::new);
    }

    List<Sack> inBin(int bin) {
        return now.sacks.stream().filter(sack -> sack.bin == bin).sorted(Comparator.comparingInt(Sack::id)).toList();
    }

    List<Sack> inOrder(int bin) {
        Comparator<Sack> byId = Comparator.comparingInt(Sack::id);
        Comparator<Sack> order = switch (now.bins.get(bin).method) {
            case 'f' -> byId;
            case 'l' -> byId.reversed();
            default -> Comparator.comparingInt(Sack::weight).reversed().thenComparing(byId);
        };
        return inBin(bin).stream().sorted(order).toList();
    }

    int weightIn(int bin) {
        return inBin(bin).stream().mapToInt(Sack::weight).sum();
    }

    int valueOf(int bin) {
        return inBin(bin).stream().mapToInt(sack -> sack.weight * sack.price).sum();
    }

    private void put(Sack sack) {
        now.sacks.removeIf(other -> other.id == sack.id);
        if (sack.weight > 0) {
            now.sacks.add(sack);
        }
    }

    private int addBin(int capacity, char method) {
        valid(capacity >= 20 && capacity <= 400 && "flh".indexOf(method) >= 0);
        if (now.bins.size() == 5) {
            reject(1, 5);
        }
        now.bins.add(new Bin(capacity, method, 0, 0));
        return now.bins.size() - 1;
    }

    private int setMethod(int index, char method) {
        Bin bin = bin(index);
        valid("flh".indexOf(method) >= 0);
        now.bins.set(index, new Bin(bin.capacity, method, bin.mice, bin.traps));
        return bin.method;
    }

    private void findRoom(int bin, int weight) {
        if (inBin(bin).size() == 10) {
            reject(2, bin);
        }
        int room = now.bins.get(bin).capacity - weightIn(bin);
        if (weight > room) {
            reject(3, room);
        }
    }

    private int addSack(int bin, int weight, int price, int grade) {
        bin(bin);
        valid(weight > 0 && weight <= 60 && price > 0 && price <= 30 && grade >= 0 && grade <= 9);
        findRoom(bin, weight);
        now.sacks.add(new Sack(now.nextId, weight, price, grade, now.month, bin));
        now.stored += weight;
        return now.nextId++;
    }

    private int moveSack(int id, int bin) {
        Sack sack = sack(id);
        bin(bin);
        if (sack.bin == bin) {
            reject(4, bin);
        }
        findRoom(bin, sack.weight);
        put(new Sack(id, sack.weight, sack.price, sack.grade, sack.month, bin));
        return weightIn(bin);
    }

    private int setMice(int index, int mice) {
        Bin bin = bin(index);
        valid(mice >= 0 && mice <= 20);
        now.bins.set(index, new Bin(bin.capacity, bin.method, mice, bin.traps));
        return bin.mice;
    }

    private int setTraps(int index, int traps) {
        Bin bin = bin(index);
        valid(traps >= 0 && traps <= 9);
        now.bins.set(index, new Bin(bin.capacity, bin.method, bin.mice, traps));
        return bin.traps;
    }

    private int passMonths(int months) {
        valid(months > 0 && months <= 24);
        int before = now.eaten;
        for (int month = 0; month < months; month++) {
            now.month++;
            for (int bin = 0; bin < now.bins.size(); bin++) {
                passMonth(bin);
            }
        }
        return now.eaten - before;
    }

    // Mouse by mouse and kilogram by kilogram.
    private void passMonth(int index) {
        Bin bin = now.bins.get(index);
        int mice = bin.mice;
        for (int trap = 0; trap < bin.traps && mice > 0; trap++) {
            mice--;
        }
        int fed = 0;
        for (int mouse = 0; mouse < mice; mouse++) {
            List<Sack> sacks = inBin(index);
            if (!sacks.isEmpty()) {
                put(sacks.get(0).lighter(1));
                fed++;
            }
        }
        now.eaten += fed;
        int next = fed == mice ? (int) Math.min(20, mice + Math.ceil(mice / 2.0)) : fed;
        now.bins.set(index, new Bin(bin.capacity, bin.method, next, bin.traps));
    }

    int eatenWithin(int bin, int months) {
        bin(bin);
        valid(months >= 0 && months <= 60);
        State before = now.copy();
        int weight = weightIn(bin);
        for (int month = 0; month < months; month++) {
            passMonth(bin);
        }
        int left = weightIn(bin);
        now = before;
        return weight - left;
    }

    int monthsUntilEmpty(int bin) {
        bin(bin);
        int months = 0;
        State before = now.copy();
        while (months <= 60 && weightIn(bin) > 0) {
            passMonth(bin);
            months++;
        }
        now = before;
        if (months > 60) {
            throw new NoSuchElementException();
        }
        return months;
    }

    private int sift(int bin, int mesh) {
        bin(bin);
        valid(mesh > 0 && mesh <= 9);
        int chaff = 0;
        for (Sack sack : inBin(bin)) {
            if (mesh > sack.grade) {
                int lost = sack.weight * (mesh - sack.grade) / 10;
                chaff += lost;
                put(new Sack(sack.id, sack.weight - lost, sack.price, mesh, sack.month, bin));
            }
        }
        now.chaff += chaff;
        return chaff;
    }

    private int sell(int bin, int kilograms) {
        bin(bin);
        valid(kilograms > 0 && kilograms <= 400);
        if (weightIn(bin) < kilograms) {
            reject(5, weightIn(bin));
        }
        now.costOfSold += costOf(bin, kilograms);
        int left = kilograms;
        for (Sack sack : inOrder(bin)) {
            int part = Math.min(left, sack.weight);
            left -= part;
            put(sack.lighter(part));
        }
        now.sold += kilograms;
        now.revenue += kilograms * now.prices[now.month % 12];
        return kilograms * now.prices[now.month % 12];
    }

    int costOf(int bin, int kilograms) {
        bin(bin);
        valid(kilograms > 0 && kilograms <= 400);
        List<Integer> prices = new ArrayList<>();
        for (Sack sack : inOrder(bin)) {
            for (int kilogram = 0; kilogram < sack.weight; kilogram++) {
                prices.add(sack.price);
            }
        }
        if (prices.size() < kilograms) {
            throw new NoSuchElementException();
        }
        return prices.subList(0, kilograms).stream().mapToInt(Integer::intValue).sum();
    }

    private int setPrice(int month, int price) {
        valid(month >= 0 && month <= 11 && price > 0 && price <= 30);
        int previous = now.prices[month];
        now.prices[month] = price;
        return previous;
    }

    int bestLoad(int bin, int limit) {
        bin(bin);
        valid(limit >= 0 && limit <= 400);
        return bestLoadOf(inBin(bin), limit);
    }

    private static int bestLoadOf(List<Sack> sacks, int limit) {
        if (sacks.isEmpty()) {
            return 0;
        }
        Sack sack = sacks.get(0);
        List<Sack> others = sacks.subList(1, sacks.size());
        int without = bestLoadOf(others, limit);
        return sack.weight > limit ? without
                : Math.max(without, sack.weight * sack.price + bestLoadOf(others, limit - sack.weight));
    }

    int fairestSplit(int bin) {
        bin(bin);
        return fairestSplitOf(inBin(bin), 0);
    }

    private static int fairestSplitOf(List<Sack> sacks, int ahead) {
        if (sacks.isEmpty()) {
            return Math.abs(ahead);
        }
        int weight = sacks.get(0).weight;
        List<Sack> others = sacks.subList(1, sacks.size());
        return Math.min(fairestSplitOf(others, ahead + weight), fairestSplitOf(others, ahead - weight));
    }

    int bestTrades(int trades) {
        valid(trades > 0 && trades <= 6);
        return bestTradesFrom(0, false, trades);
    }

    // In each month the kilogram is sold or not, and then one is bought or not.
    private int bestTradesFrom(int month, boolean holding, int left) {
        if (month == 12) {
            return holding ? -1000 : 0;
        }
        int best = bestTradesFrom(month + 1, holding, left);
        if (holding) {
            best = Math.max(best, now.prices[month] + bestTradesFrom(month + 1, false, left));
            if (left > 0) {
                best = Math.max(best, bestTradesFrom(month + 1, true, left - 1));
            }
        } else if (left > 0) {
            best = Math.max(best, bestTradesFrom(month + 1, true, left - 1) - now.prices[month]);
        }
        return best;
    }

    int binByValue(int position) {
        List<Integer> bins = new ArrayList<>();
        for (int bin = 0; bin < now.bins.size(); bin++) {
            bins.add(bin);
        }
        bins.sort(Comparator.comparingInt((Integer bin) -> -valueOf(bin)).thenComparingInt(bin -> -weightIn(bin))
                .thenComparingInt(bin -> bin));
        if (position < 0 || position >= bins.size()) {
            throw new NoSuchElementException();
        }
        return bins.get(position);
    }

    String binText(int index) {
        Bin bin = bin(index);
        String text = bin.method + "" + weightIn(index) + "/" + bin.capacity;
        text += (bin.mice > 0 ? "m" + bin.mice : "") + (bin.traps > 0 ? "t" + bin.traps : "");
        for (Sack sack : inOrder(index)) {
            text += " " + sack.id;
        }
        return text;
    }

    String sackText(int id) {
        Sack sack = sack(id);
        return "#" + id + ":" + sack.weight + "*" + sack.price + "g" + sack.grade + "@" + sack.bin;
    }

    int append(char character) {
        valid(character >= 32 && character <= 126);
        if (input.length() == 60) {
            throw new IllegalStateException();
        }
        input += character;
        return input.length();
    }

    int execute() {
        String text = input;
        input = "";
        if (!INPUT.matcher(text).matches()) {
            syntaxError = offsetIn(text);
            throw new IllegalArgumentException();
        }
        State before = now.copy();
        String[] commands = text.split(";");
        for (int number = 0; number < commands.length; number++) {
            executeCommand(commands[number], number, before);
        }
        remember(before);
        return commands.length;
    }

    private void executeCommand(String command, int number, State before) {
        int[] latest = {reason, detail, cause};
        try {
            make(nameOf(command), argumentsOf(command));
        } catch (UnsupportedOperationException rejected) {
            now = before;
            cause = reason;
            reason = 6;
            detail = number;
            throw rejected;
        } catch (RuntimeException failed) {
            now = before;
            reason = latest[0];
            detail = latest[1];
            cause = latest[2];
            throw new IllegalStateException();
        }
    }

    private static String nameOf(String command) {
        return switch (command.substring(0, command.indexOf(' '))) {
            case "bin" -> "addBin";
            case "method" -> "setMethod";
            case "sack" -> "addSack";
            case "move" -> "moveSack";
            case "mice" -> "setMice";
            case "traps" -> "setTraps";
            case "price" -> "setPrice";
            case "months" -> "passMonths";
            default -> command.substring(0, 4);
        };
    }

    private static int[] argumentsOf(String command) {
        String[] words = command.split(" ");
        int[] values = new int[words.length - 1];
        for (int index = 0; index < values.length; index++) {
            String word = words[index + 1];
            values[index] = Character.isDigit(word.charAt(0)) ? Integer.parseInt(word) : word.charAt(0);
        }
        return values;
    }

    // The longest beginning that a longer input could still make good.
    private static int offsetIn(String text) {
        int offset = 0;
        while (offset < text.length()) {
            Matcher matcher = INPUT.matcher(text.substring(0, offset + 1));
            if (!matcher.matches() && !matcher.hitEnd()) {
                return offset;
            }
            offset++;
        }
        return offset;
    }

    int undo() {
        if (past.isEmpty()) {
            throw new IllegalStateException();
        }
        now = past.pop();
        return past.size();
    }

    int save() {
        saved = now.copy();
        return now.bins.size();
    }

    int restore() {
        if (saved == null) {
            throw new IllegalStateException();
        }
        now = saved.copy();
        past.clear();
        return now.bins.size();
    }
}
