import java.io.IOException;
import java.lang.reflect.Constructor;
import java.lang.reflect.Field;
import java.lang.reflect.Member;
import java.lang.reflect.Method;
import java.lang.reflect.Modifier;
import java.nio.file.Files;
import java.nio.file.Path;
import java.util.HashSet;
import java.util.List;
import java.util.Set;
import java.util.TreeSet;
import java.util.regex.Matcher;
import java.util.regex.Pattern;

/** The class has the document's face and nothing more, and keeps to rules of LANGUAGE.md that a text shows. */
public final class FaceTest {
    private static final String[] NEVER = {"try ", "catch ", "finally", "->", "::", "synchronized", "assert ",
        "Exact(", "System.out", "Random", "Thread", "clone(", "getClass", "hashCode", "toString", " Object", "static {"};

    public static void main(String[] args) throws IOException {
        Set<String> due = faceOfDocument(Files.readString(Path.of("../shared/DOC.md")));
        Check.same("members of the document's face", due.size(), 67);
        Set<String> got = faceOfClass();
        for (String member : due) {
            Check.holds("the class has " + member, got.contains(member));
        }
        for (String member : got) {
            Check.holds("the document has " + member, due.contains(member));
        }
        nestedClasses();
        source(Files.readAllLines(Path.of("src/main/java/SighGranary.java")));
        Check.end();
    }

    private static Set<String> faceOfDocument(String text) {
        String face = text.substring(text.indexOf("```java"), text.indexOf("## Terms"));
        Set<String> members = new TreeSet<>();
        Matcher member = Pattern.compile("(?m)^    public (.*);$").matcher(face);
        while (member.find()) {
            members.add(withoutNames(member.group(1)));
        }
        return members;
    }

    // "int moveSack(int sack, int bin) throws A, B" becomes "int moveSack(int, int) throws A, B".
    private static String withoutNames(String member) {
        return member.replaceAll("(int|char) \\w+(?=[,)])", "$1").replaceAll("static final (\\w+ \\w+) = .*", "$1");
    }

    private static Set<String> faceOfClass() {
        Set<String> members = new TreeSet<>();
        for (Field field : SighGranary.class.getDeclaredFields()) {
            if (!isPrivate(field)) {
                members.add(field.getType().getSimpleName() + " " + field.getName());
            }
            Check.holds("static means final: " + field, !Modifier.isStatic(field.getModifiers())
                    || Modifier.isFinal(field.getModifiers()));
        }
        for (Constructor<?> made : SighGranary.class.getDeclaredConstructors()) {
            members.add("SighGranary(" + names(made.getParameterTypes()) + ")");
        }
        for (Method method : SighGranary.class.getDeclaredMethods()) {
            if (!isPrivate(method)) {
                String thrown = names(method.getExceptionTypes());
                members.add(method.getReturnType().getSimpleName() + " " + method.getName() + "("
                        + names(method.getParameterTypes()) + ")" + (thrown.isEmpty() ? "" : " throws " + thrown));
            }
        }
        return members;
    }

    private static boolean isPrivate(Member member) {
        return Modifier.isPrivate(member.getModifiers());
    }

    private static String names(Class<?>[] types) {
        return String.join(", ", List.of(types).stream().map(Class::getSimpleName).toList());
    }

    private static void nestedClasses() {
        Set<String> publicNames = new HashSet<>();
        for (Method method : SighGranary.class.getDeclaredMethods()) {
            if (Modifier.isPublic(method.getModifiers())) {
                Check.holds("named once: " + method, publicNames.add(method.getName()));
            }
        }
        for (Method method : SighGranary.class.getDeclaredMethods()) {
            Check.holds("rule 1: a name of its own: " + method,
                    !isPrivate(method) || !publicNames.contains(method.getName()));
        }
        Class<?>[] nested = SighGranary.class.getDeclaredClasses();
        Check.holds("rule 11: classes", nested.length < 12);
        for (Class<?> type : nested) {
            Check.holds("static: " + type, Modifier.isStatic(type.getModifiers()));
            Check.holds("rule 11: fields of " + type, type.getDeclaredFields().length <= 20);
            for (Method method : type.getDeclaredMethods()) {
                Check.holds("rule 1: a name of its own: " + method, !publicNames.contains(method.getName()));
                Check.holds("rule 11: parameters: " + method, method.getParameterCount() <= 7);
            }
        }
    }

    private static void source(List<String> lines) {
        int begin = 0;
        for (int line = 0; line < lines.size(); line++) {
            String text = lines.get(line);
            for (String never : NEVER) {
                Check.holds("line " + (line + 1) + " has " + never, !text.contains(never));
            }
            Check.holds("only one import", !text.startsWith("import")
                    || text.equals("import java.util.NoSuchElementException;"));
            begin = text.matches("( {4}| {8})\\w.*\\(.*") ? line : begin;
            if (text.matches("( {4}| {8})}")) {
                Check.holds("rule 11: the method of line " + (begin + 1) + " is short", line - begin <= 60);
            }
        }
    }
}
