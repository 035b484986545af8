import java.io.IOException;
import java.lang.reflect.Method;
import java.lang.reflect.Modifier;
import java.nio.file.Files;
import java.nio.file.Path;
import java.util.Arrays;
import java.util.List;
import java.util.regex.Matcher;
import java.util.regex.Pattern;
import java.util.stream.Collectors;
import java.util.stream.Stream;

/** What README.md tells of the class: its example is played call by call, and no call and no test is left out. */
public final class ReadmeTest {
    private static final Check CHECK = new Check();
    private static final Pattern TEXT = Pattern.compile("for \\(char c : \"([^\"]*)\"");
    private static final Pattern CALL = Pattern.compile("(?m)^x\\.(\\w+)\\(([^)]*)\\); +// (-?\\d+): ");

    public static void main(String[] args) throws IOException, ReflectiveOperationException {
        String page = Files.readString(Path.of("README.md"));
        theExampleAnswersAsTold(page);
        everyCallIsNamed(page);
        everyTestIsNamed(page);
        CHECK.finish();
    }

    private static void theExampleAnswersAsTold(String page) throws ReflectiveOperationException {
        AlphaCourt x = new AlphaCourt();
        Matcher text = TEXT.matcher(page);
        CHECK.isTrue("there is a text", text.find());
        for (char c : text.group(1).toCharArray()) {
            x.feed(c);
        }
        Matcher call = CALL.matcher(page);
        int played = 0;
        while (call.find()) {
            CHECK.due(call.group(), play(x, call.group(1), call.group(2)), Integer.parseInt(call.group(3)));
            played++;
        }
        long told = page.lines().filter(line -> line.startsWith("x.")).count();
        CHECK.due("calls played", played, (int) told);
        CHECK.isTrue("some are", played > 0);
    }

    private static int play(AlphaCourt x, String name, String numbers) throws ReflectiveOperationException {
        Object[] given = Stream.of(numbers.split(",")).map(String::trim).filter(n -> !n.isEmpty()).map(Integer::valueOf)
            .toArray();
        Class<?>[] types = new Class<?>[given.length];
        Arrays.fill(types, int.class);
        return (Integer) AlphaCourt.class.getMethod(name, types).invoke(x, given);
    }

    private static void everyCallIsNamed(String page) {
        String table = page.substring(page.indexOf("### The calls"), page.indexOf("### What is refused"));
        for (Method m : AlphaCourt.class.getDeclaredMethods()) {
            if (Modifier.isPublic(m.getModifiers())) {
                CHECK.isTrue(m.getName() + " is named", table.contains("`" + m.getName() + "`"));
            }
        }
    }

    private static void everyTestIsNamed(String page) throws IOException {
        try (Stream<Path> files = Files.list(Path.of("src/test/java"))) {
            List<String> tests = files.map(file -> file.getFileName().toString())
                .filter(file -> file.endsWith("Test.java")).map(file -> file.replace(".java", ""))
                .collect(Collectors.toList());
            for (String test : tests) {
                CHECK.isTrue(test + " is named", page.contains("`" + test + "`"));
            }
        }
    }
}
