import java.util.ArrayList;
import java.util.List;
import java.util.Set;
import java.util.TreeSet;

/**
 * Each beginning of a command, with each character behind it: "The offset of a syntax error is the index of the first
 * character that cannot follow the characters ahead of it in any input; it is the length of the input if the input ends
 * too early."
 */
public final class SyntaxTest {
    /** All commands, with a 7 for every digit. */
    private static final Set<String> COMMANDS = new TreeSet<>();
    private static final Set<String> BEGINNINGS = new TreeSet<>();
    private static final String[] NUMBERS = {"7", "77", "777"};
    private static final int NO_ERROR = -1;

    private final SighGranary granary = new SighGranary();

    public static void main(String[] args) {
        listCommands();
        listBeginnings();
        SyntaxTest test = new SyntaxTest();
        test.beginnings("");
        test.beginnings("mice 0 12;");
        test.beginnings("sack 9 999 0 0;move 007 3;");
        everyMethodAndNumber();
        numbersOfCommands();
        inputsOfSixty();
        Check.end();
    }

    private static void listCommands() {
        for (String number : NUMBERS) {
            for (String method : new String[] {"f", "l", "h"}) {
                COMMANDS.add("bin " + number + " " + method);
                COMMANDS.add("method 7 " + method);
            }
            for (String other : NUMBERS) {
                COMMANDS.add("sack 7 " + number + " " + other + " 7");
                COMMANDS.add("price " + number + " " + other);
            }
            COMMANDS.add("move " + number + " 7");
            COMMANDS.add("mice 7 " + number);
            COMMANDS.add("sell 7 " + number);
            COMMANDS.add("months " + number);
        }
        COMMANDS.add("traps 7 7");
        COMMANDS.add("sift 7 7");
        Check.same("commands", COMMANDS.size(), 9 + 3 + 9 + 9 + 3 + 3 + 3 + 3 + 2);
    }

    private static void listBeginnings() {
        for (String command : COMMANDS) {
            for (int length = 0; length <= command.length(); length++) {
                BEGINNINGS.add(command.substring(0, length));
            }
        }
    }

    private void beginnings(String ahead) {
        for (String beginning : BEGINNINGS) {
            look(ahead + beginning, COMMANDS.contains(beginning) ? NO_ERROR : ahead.length() + beginning.length());
            for (int code = 32; code <= 126; code++) {
                character(ahead, beginning, (char) code);
            }
        }
    }

    private void character(String ahead, String beginning, char character) {
        String text = ahead + beginning + character;
        String longer = beginning + (character >= '0' && character <= '9' ? '7' : character);
        boolean whole = COMMANDS.contains(beginning) && character == ';';
        if (COMMANDS.contains(longer)) {
            look(text, NO_ERROR);
        } else if (whole || BEGINNINGS.contains(longer)) {
            look(text, text.length());
        } else {
            look(text, text.length() - 1);
            look(text + "7", text.length() - 1);
            look(text + ";months 1", text.length() - 1);
        }
    }

    private void look(String input, int offset) {
        Check.type(granary, input);
        boolean wrong = Sight.answer(granary::execute).equals("IllegalArgumentException");
        Check.same("54: \"" + input + "\" has a syntax error", wrong ? 1 : 0, offset == NO_ERROR ? 0 : 1);
        if (wrong) {
            Check.same("55: \"" + input + "\"", granary.syntaxErrorOffset(), offset);
        }
    }

    // "A number has one to three digits; a method is "f", "l" or "h"", and a digit is one of ten.
    private static void everyMethodAndNumber() {
        for (int number = 0; number <= 999; number++) {
            SighGranary x = new SighGranary();
            boolean fits = number >= 20 && number <= 400;
            Check.type(x, "bin " + number + " f");
            Check.same("54: bin " + number, Sight.answer(x::execute), fits ? "1" : "IllegalStateException");
            Check.same("54: its capacity", x.binCount() == 0 ? 0 : x.capacityOf(0), fits ? number : 0);
        }
        for (char method : new char[] {'f', 'l', 'h'}) {
            SighGranary x = new SighGranary();
            x.addBin(20, 'f');
            Check.same("54: a bin", Check.run(x, "bin 20 " + method), 1);
            Check.same("54: its method", x.methodOf(1), method);
            Check.same("54: a method", Check.run(x, "method 0 " + method), 1);
            Check.same("54: the method", x.methodOf(0), method);
        }
        for (int digit = 0; digit <= 9; digit++) {
            SighGranary x = new SighGranary();
            x.addBin(20, 'f');
            Check.same("54: a digit of a grade", Check.run(x, "sack 0 1 1 " + digit), 1);
            Check.same("54: the grade", x.gradeOf(0), digit);
            Check.same("54: a digit of traps", Check.run(x, "traps 0 " + digit), 1);
            Check.same("54: the traps", x.trapsIn(0), digit);
        }
    }

    // "The input has one or more commands, with ";" between two of them."
    private static void numbersOfCommands() {
        SighGranary x = new SighGranary();
        Check.same("54: no command", Sight.answer(x::execute), "IllegalArgumentException");
        Check.same("55: no command", x.syntaxErrorOffset(), 0);
        List<String> commands = new ArrayList<>();
        for (int count = 1; count <= 6; count++) {
            commands.add("months 1");
            Check.same("54: " + count + " commands", Check.run(x, String.join(";", commands)), count);
            Check.same("54: months passed", x.month(), count * (count + 1) / 2);
        }
    }

    private static void inputsOfSixty() {
        SyntaxTest test = new SyntaxTest();
        String most = "price 0 9;price 1 9;price 2 9;price 3 9;price 4 9;price 05 9";
        Check.same("53: characters", most.length(), 60);
        test.look(most, NO_ERROR);
        test.look(most.substring(0, 59) + "x", 59);
        test.look(most.substring(0, 59), 59);
        test.look(most.replace("05 9", "005 "), 60);
        test.look("x" + most.substring(1), 0);
    }
}
