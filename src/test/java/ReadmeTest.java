import java.io.File;
import java.lang.reflect.Method;
import java.lang.reflect.Modifier;
import java.nio.file.Files;
import java.nio.file.Path;
import java.util.ArrayList;
import java.util.Arrays;
import java.util.List;
import java.util.regex.Matcher;
import java.util.regex.Pattern;

/** README.md tells what is so: its examples answer as it says, and no call or test is left out. */
public final class ReadmeTest {
    private static final Checks CHECKS = new Checks();
    private static final Pattern BLOCK = Pattern.compile("(?s)```java\n(.*?)```");
    private static final Pattern MADE = Pattern.compile("TalkBus bus = new TalkBus\\(\\);.*");
    private static final Pattern TOLD = Pattern.compile(
        "for \\(char letter : \"([^\"]*)\"\\.toCharArray\\(\\)\\) bus\\.write\\(letter\\);");
    private static final Pattern CALL = Pattern.compile(
        "bus\\.(\\w+)\\(([-0-9, ]*)\\); *// (-?\\d+)(?::.*)?");

    public static void main(String[] args) throws Exception {
        String page = Files.readString(Path.of("README.md"));
        int blocks = 0;
        Matcher block = BLOCK.matcher(page);
        while (block.find()) {
            blocks++;
            runExample(block.group(1).split("\n"));
        }
        CHECKS.holds("the page has examples", blocks > 0);
        namesEveryCall(page);
        namesEveryTest(page);
        CHECKS.end("ReadmeTest");
    }

    private static void runExample(String[] lines) throws Exception {
        TalkBus bus = new TalkBus();
        for (String line : lines) {
            Matcher told = TOLD.matcher(line);
            Matcher call = CALL.matcher(line);
            if (MADE.matcher(line).matches()) {
                bus = new TalkBus();
            } else if (told.matches()) {
                Checks.tell(bus, told.group(1));
            } else if (call.matches()) {
                CHECKS.due(line, answer(bus, call.group(1), numbers(call.group(2))),
                    Integer.parseInt(call.group(3)));
            } else {
                CHECKS.holds("a line that this test can run: " + line, false);
            }
        }
    }

    private static Object[] numbers(String told) {
        List<Object> all = new ArrayList<>();
        for (String number : told.split(",")) {
            if (!number.isBlank()) {
                all.add(Integer.valueOf(number.trim()));
            }
        }
        return all.toArray();
    }

    private static int answer(TalkBus bus, String name, Object[] numbers) throws Exception {
        Class<?>[] types = new Class<?>[numbers.length];
        Arrays.fill(types, int.class);
        return (Integer) TalkBus.class.getMethod(name, types).invoke(bus, numbers);
    }

    private static void namesEveryCall(String page) {
        for (Method m : TalkBus.class.getDeclaredMethods()) {
            if (Modifier.isPublic(m.getModifiers())) {
                int commas = Math.max(0, m.getParameterCount() - 1);
                String parameters = m.getParameterCount() == 0 ? "" : "\\w+(, \\w+){" + commas + "}";
                Pattern row = Pattern.compile("\n\\| `" + m.getName() + "\\(" + parameters + "\\)` \\|");
                CHECKS.holds("the page's table has " + m.getName(), row.matcher(page).find());
            }
        }
    }

    private static void namesEveryTest(String page) {
        String[] files = new File("src/test/java").list();
        CHECKS.holds("tests are found", files != null && files.length > 0);
        for (String file : files == null ? new String[0] : files) {
            if (file.endsWith("Test.java")) {
                String name = file.substring(0, file.length() - ".java".length());
                CHECKS.holds("the page names " + name, page.contains("| `" + name + "` |"));
            }
        }
    }
}
