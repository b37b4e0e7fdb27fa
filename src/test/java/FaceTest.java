import java.io.IOException;
import java.lang.reflect.Constructor;
import java.lang.reflect.Field;
import java.lang.reflect.Method;
import java.lang.reflect.Modifier;
import java.nio.file.Files;
import java.nio.file.Path;
import java.util.Map;
import java.util.Set;
import java.util.TreeMap;
import java.util.TreeSet;
import java.util.regex.Matcher;
import java.util.regex.Pattern;

/** The face of the document, member by member, and those rules of LANGUAGE.md that the text or the class shows. */
public final class FaceTest {
    private static final String[] METHODS = {
        "char rock(int,char)", "int sample(int,int)", "int tellTruth(int,int)", "int grade(int)",
        "int worth(int,int)", "boolean isFree(int)", "boolean isDug(int)", "long pitWorth(int)", "int pitSize(int)",
        "boolean isInPit(int,int)", "long worthWith(int,int)", "int phase(int)", "int clearPhases()",
        "int phaseOf(int)", "int set(char,int)", "boolean mix(boolean)", "int goOn(int)", "int week()",
        "char wentTo(int)", "int dugIn(int)", "int stock()", "int stockGrades()", "int water()", "int recovery()",
        "long metal()", "long money()", "int tons(char)", "int factor()", "boolean isBalanced()",
        "float dugShare()", "double meanFed()",
    };

    /** What no line of the class may hold, and why. */
    private static final String[][] BANNED = {
        {"->|::", "a lambda or a method reference (rule 2)"},
        {"\\b(finally|synchronized|assert|package|record|volatile|transient)\\b", "a word that is left out (rule 6)"},
        {"\\bMath\\.(?!max\\(|min\\(|abs\\(|floorDiv\\(|floorMod\\()", "a function of Math (rule 4)"},
        {"\\bcatch\\b", "no call of the class has anything to catch (rule 6)"},
        {"\\b(System|Thread|Random|Runtime|Class)\\.", "the surroundings (rule 13)"},
        {"\\bimport (?!java\\.util\\.NoSuchElementException;)", "an import (rule 4)"},
        {"\"[^\"]*\" *\\+|\\+ *\"", "texts joined by + (rule 10)"},
    };

    /** All calls live in one room: only a field, the constructor and a refusal (rule 6) make something. */
    private static final String MADE = " {8}private final \\S+ \\w+ = new .*;| {8}\\w+ = new \\w+\\(.*\\);"
            + "| +throw new (IllegalState|IllegalArgument|IndexOutOfBounds|Arithmetic|UnsupportedOperation|NoSuchElement)"
            + "Exception\\(\"[a-z ]+\"\\);";

    private final Check check = new Check("FaceTest");

    public static void main(String[] args) throws IOException {
        FaceTest test = new FaceTest();
        test.members();
        test.parts();
        String text = Files.readString(Path.of("src/main/java/PitForge.java"));
        test.lines(text, Files.readString(Path.of("../shared/DOC.md")));
        test.text(text);
        test.methods(text);
        test.check.close();
    }

    /** Each line of the document's face stands in the text, in its order, and each heading ahead of its calls. */
    private void lines(String text, String document) {
        int from = document.indexOf("```java\n") + "```java\n".length();
        String[] face = document.substring(from, document.indexOf("```", from)).split("\n");
        check.same("the lines of the face", face.length, 36);
        int at = 0;
        for (String line : face) {
            String head = line.replaceAll("\\) *(throws [^;]*)?;$", ") $1").strip();
            int found = line.isBlank() || line.equals("}") ? at : text.indexOf(head, at);
            check.same("the class has, in its order, " + head, found >= at, true);
            at = Math.max(found, at);
        }
        Matcher ahead = Pattern.compile("Ahead of the calls `(\\w+)`.* the interface says: (---- .*)\\.").matcher(document);
        while (ahead.find()) {
            String heading = "    // " + ahead.group(2) + "\n\n    public \\w+ " + ahead.group(1) + "\\(";
            check.same(ahead.group(2), Pattern.compile(heading).matcher(text).find(), true);
        }
    }

    private void members() {
        check.same("the class is public and final", PitForge.class.getModifiers(), Modifier.PUBLIC | Modifier.FINAL);
        Set<String> open = new TreeSet<>();
        Set<String> hidden = new TreeSet<>();
        for (Method m : PitForge.class.getDeclaredMethods()) {
            if (Modifier.isPrivate(m.getModifiers())) {
                hidden.add(m.getName());
            } else {
                check.same(m.getName() + " is public alone", m.getModifiers(), Modifier.PUBLIC);
                open.add(signature(m));
            }
        }
        check.same("the methods of the face", open, new TreeSet<>(Set.of(METHODS)));
        for (String one : METHODS) {
            String name = one.substring(one.indexOf(' ') + 1, one.indexOf('('));
            check.same("a private method " + name, hidden.contains(name), false);
        }
        for (Field f : PitForge.class.getDeclaredFields()) {
            check.same(f.getName() + " is private", Modifier.isPrivate(f.getModifiers()), true);
        }
        Constructor<?>[] makers = PitForge.class.getDeclaredConstructors();
        check.same("one constructor", makers.length, 1);
        check.same("it is public", makers[0].getModifiers(), Modifier.PUBLIC);
        check.same("it has no parameters", makers[0].getParameterCount(), 0);
    }

    private static String signature(Method m) {
        StringBuilder text = new StringBuilder(m.getReturnType().getName()).append(' ').append(m.getName()).append('(');
        for (Class<?> type : m.getParameterTypes()) {
            text.append(text.charAt(text.length() - 1) == '(' ? "" : ",").append(type.getName());
        }
        return text.append(')').toString();
    }

    private void parts() {
        Class<?>[] parts = PitForge.class.getDeclaredClasses();
        check.same("at most eleven classes inside", parts.length <= 11, true);
        for (Class<?> part : parts) {
            int is = part.getModifiers();
            check.same(part.getName() + " is static and closed", Modifier.isStatic(is) && !Modifier.isPublic(is), true);
            check.same(part.getName() + " has some twenty fields", part.getDeclaredFields().length <= 20, true);
            for (Field f : part.getDeclaredFields()) {
                boolean still = !Modifier.isStatic(f.getModifiers()) || Modifier.isFinal(f.getModifiers());
                check.same(part.getName() + "." + f.getName() + " is no static state", still, true);
                boolean broken = f.getType() == double.class || f.getType() == float.class;
                check.same(part.getName() + "." + f.getName() + " is a constant left out (rule 5)",
                        broken && Modifier.isStatic(f.getModifiers()), false);
            }
        }
    }

    private void text(String text) {
        for (int i = 0; i < text.length(); i++) {
            if (text.charAt(i) > 126) {
                check.same("the sign at " + i, (int) text.charAt(i), 0);
            }
        }
        String bare = text.replaceAll("(?s)/\\*.*?\\*/", "").replaceAll("//[^\n]*", "");
        for (String[] rule : BANNED) {
            Matcher found = Pattern.compile(rule[0]).matcher(bare);
            check.same(rule[1], found.find() ? found.group() : "", "");
        }
        for (String line : bare.split("\n")) {
            if (line.matches(".*\\bnew\\b.*")) {
                check.same("made in the constructor, or an exception: " + line, line.matches(MADE), true);
            }
        }
    }

    /** Rule 11 by the names of the methods: their parameters, their lines, and how deep their calls go. */
    private void methods(String text) {
        Map<String, String> bodies = new TreeMap<>();
        Matcher head = Pattern.compile("\n( +)(?:[\\w\\[\\]]+ )*(\\w+)\\(([^()]*)\\)[^;{}()]*\\{\n").matcher(text);
        while (head.find()) {
            String body = text.substring(head.end(), text.indexOf("\n" + head.group(1) + "}", head.end() - 1));
            if (!Pattern.matches("if|for|while|switch", head.group(2))) {
                check.same(head.group(2) + " has at most 7 parameters", head.group(3).split(",").length <= 7, true);
                check.same(head.group(2) + " has at most 60 lines", body.split("\n").length <= 60, true);
                bodies.merge(head.group(2), body, String::concat);
            }
        }
        check.same("all methods were found", bodies.keySet().containsAll(Set.of("goOn", "markNeeded", "noteGrades")), true);
        for (String name : bodies.keySet()) {
            check.same("the calls of " + name + " go at most eight deep", depth(name, bodies, 0) <= 8, true);
        }
    }

    private static int depth(String name, Map<String, String> bodies, int above) {
        int deepest = 0;
        Matcher call = Pattern.compile("(?<!new )\\b(\\w+)\\(").matcher(bodies.get(name));
        while (call.find() && above < 20) {
            if (bodies.containsKey(call.group(1))) {
                deepest = Math.max(deepest, depth(call.group(1), bodies, above + 1));
            }
        }
        return deepest + 1;
    }
}
