import java.io.IOException;
import java.lang.reflect.Constructor;
import java.lang.reflect.Field;
import java.lang.reflect.Method;
import java.lang.reflect.Modifier;
import java.nio.file.Files;
import java.nio.file.Path;
import java.util.Set;
import java.util.TreeSet;
import java.util.regex.Matcher;
import java.util.regex.Pattern;

/** The face, and those rules of LANGUAGE.md that can be seen without understanding the program. */
public final class LanguageTest {
    private static final Check CHECK = new Check();
    private static final String FACE = "as(2) ask(2) best(1) copy(5) count(1) court(0) days(1) drop(1) fault(0) feed(1) "
        + "forge(3) frees(1) image(1) kind(1) last(2) ledger(3) lose(2) name(2) order(1) person(2) restore(1) row(3) "
        + "set(3) status(0) trace(1) undo(0) waited(0) warden(1) when(2)";

    private static final Path SOURCE = Path.of("src/main/java/AlphaCourt.java");
    /** A method from its first line to the brace that closes it: its words ahead, its name, its body. */
    private static final Pattern METHOD =
        Pattern.compile("(?ms)^( +)((?:[\\w\\[\\]]+ )+)(\\w+)\\([^()]*\\) \\{\n(.*?)^\\1\\}");

    public static void main(String[] args) throws IOException {
        hasTheFace();
        hasNoOtherNames();
        keepsToTheWords();
        rule01_noPrivateMethodBearsAPublicName();
        rule04_ofTheLibraryOnlyFunctionsAreNamed();
        rule08_whatCallsItselfIsPrivateAndStatic();
        rule09_noLoopWithoutACounter();
        CHECK.finish();
    }

    private static void hasTheFace() {
        Set<String> seen = new TreeSet<>();
        int notPrivate = 0;
        for (Method m : AlphaCourt.class.getDeclaredMethods()) {
            if (Modifier.isPublic(m.getModifiers()) && !Modifier.isStatic(m.getModifiers())) {
                seen.add(m.getName() + "(" + m.getParameterCount() + ")");
                CHECK.due(m.getName() + " answers an int", m.getReturnType() == int.class ? 1 : 0, 1);
            } else if (!Modifier.isPrivate(m.getModifiers()) && !m.isSynthetic()) {
                notPrivate++;
            }
        }
        CHECK.due("the calls " + seen, String.join(" ", seen).equals(FACE) ? 1 : 0, 1);
        int constants = 0;
        for (Field f : AlphaCourt.class.getDeclaredFields()) {
            if (Modifier.isPublic(f.getModifiers())) {
                constants++;
            } else if (!Modifier.isPrivate(f.getModifiers()) && !f.isSynthetic()) {
                notPrivate++;
            }
        }
        CHECK.due("constants", constants, 4);
        CHECK.due("other members to be seen", notPrivate, 0);
        Constructor<?>[] all = AlphaCourt.class.getDeclaredConstructors();
        CHECK.due("constructors", all.length, 1);
        CHECK.due("the class is public and final",
            AlphaCourt.class.getModifiers(), Modifier.PUBLIC | Modifier.FINAL);
        CHECK.due("NONE", AlphaCourt.NONE, -1000000);
        CHECK.due("BAD", AlphaCourt.BAD, -1000001);
        CHECK.due("STATE", AlphaCourt.STATE, -1000002);
        CHECK.due("FULL", AlphaCourt.FULL, -1000003);
    }

    private static void hasNoOtherNames() {
        for (Class<?> inner : AlphaCourt.class.getDeclaredClasses()) {
            CHECK.due(inner + " is static", Modifier.isStatic(inner.getModifiers()) ? 1 : 0, 1);
            for (Method m : inner.getDeclaredMethods()) {
                CHECK.due(inner + " " + m.getName() + " bears no public name",
                    FACE.matches("(.* )?" + m.getName() + "\\(.*") ? 1 : 0, 0);
                CHECK.due(m.getName() + "'s parameters are 7 at most", Math.max(7, m.getParameterCount()), 7);
            }
            CHECK.due(inner + "'s fields are some 20", Math.max(20, inner.getDeclaredFields().length), 20);
        }
        CHECK.due("classes", Math.max(11, AlphaCourt.class.getDeclaredClasses().length), 11);
    }

    private static void keepsToTheWords() throws IOException {
        String text = Files.readString(SOURCE);
        String code = codeAlone();
        String[] forbidden = {"throw", "throws", "try", "catch", "finally", "synchronized", "assert", "import",
            "package", "protected", "volatile", "native", "goto", "lambda", "System\\.(?!arraycopy)", "Object",
            "Math\\.\\w+Exact", "String\\.format", "Random", "Thread", "float", "double", "->", "::"};
        for (String word : forbidden) {
            boolean isWord = Character.isLetter(word.charAt(0));
            Matcher m = Pattern.compile(isWord ? "\\b" + word + (word.endsWith(")") ? "" : "\\b") : word).matcher(code);
            CHECK.due("forbidden: " + word, m.find() ? 1 : 0, 0);
        }
        CHECK.due("only signs 1 to 127", text.chars().allMatch(c -> c > 0 && c < 128) ? 1 : 0, 1);
        int length = 0;
        for (String line : code.split("\n")) {
            if (line.matches("    (    )?\\w.*\\) \\{")) {
                length = 0;
            }
            length++;
            if (line.matches("    (    )?\\}")) {
                CHECK.due("lines of a method that ends with " + line, Math.max(60, length), 60);
                length = 0;
            }
        }
    }

    private static String codeAlone() throws IOException {
        return Files.readString(SOURCE).replaceAll("(?s)/\\*.*?\\*/", "").replaceAll("//[^\n]*", "");
    }

    private static void rule01_noPrivateMethodBearsAPublicName() {
        for (Method m : AlphaCourt.class.getDeclaredMethods()) {
            boolean isPublic = Modifier.isPublic(m.getModifiers());
            CHECK.due(m.getName() + " is public, or bears no public name",
                !isPublic && FACE.matches("(.* )?" + m.getName() + "\\(.*") ? 1 : 0, 0);
        }
    }

    private static void rule04_ofTheLibraryOnlyFunctionsAreNamed() throws IOException {
        Set<String> own = new TreeSet<>();
        for (Class<?> inner : AlphaCourt.class.getDeclaredClasses()) {
            own.add(inner.getSimpleName());
        }
        Matcher m = Pattern.compile("\\b([A-Z]\\w*)\\.(\\w+\\(?)").matcher(codeAlone());
        while (m.find()) {
            boolean isAllowed = m.group().matches("(Math|Integer|Long)\\.[a-z]\\w*\\(|System\\.arraycopy\\(");
            CHECK.due(m.group() + " is listed", own.contains(m.group(1)) || isAllowed ? 1 : 0, 1);
        }
    }

    private static void rule08_whatCallsItselfIsPrivateAndStatic() throws IOException {
        int seen = 0;
        Matcher m = METHOD.matcher(codeAlone());
        while (m.find()) {
            boolean callsItself = Pattern.compile("(?<![\\w.])" + m.group(3) + "\\(").matcher(m.group(4)).find();
            if (callsItself) {
                seen++;
                CHECK.due(m.group(3) + " is private and static", m.group(2).startsWith("private static ") ? 1 : 0, 1);
            }
        }
        CHECK.due("methods that call themselves", seen, 3);
    }

    private static void rule09_noLoopWithoutACounter() throws IOException {
        String code = codeAlone();
        CHECK.due("while, do", Pattern.compile("\\b(while|do)\\b").matcher(code).find() ? 1 : 0, 0);
        Matcher m = Pattern.compile("\\bfor \\(([^;]*);([^;]*);([^)]*)\\)").matcher(code);
        while (m.find()) {
            CHECK.due("a bound in " + m.group(), m.group(2).matches(".* (<|<=) .*") ? 1 : 0, 1);
            CHECK.due("a counter in " + m.group(), m.group(3).matches(" \\w+\\+\\+") ? 1 : 0, 1);
        }
    }
}
