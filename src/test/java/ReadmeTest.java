import java.io.IOException;
import java.lang.reflect.Field;
import java.lang.reflect.Modifier;
import java.nio.file.Files;
import java.nio.file.Path;
import java.util.regex.Matcher;
import java.util.regex.Pattern;

/** README.md tells no lie: each call of its example answers what stands behind it, and nothing of the face is left out. */
public final class ReadmeTest {
    private static final Pattern EXAMPLE = Pattern.compile("(?s)```java\\n(.*?)```");
    private static final Pattern CALL = Pattern.compile("office\\.(\\w+)\\(([-\\d, ]*)\\);\\s*// (-?\\d+)(:.*)?");
    private static final Pattern FILE = Pattern.compile("[\\w./]+\\.(java|md)|\\.ci/run");
    private static final Pattern TEST = Pattern.compile("(?<![*\\w])\\w+Test\\b");

    private static int wrong = 0;

    private static void hold(boolean holds, String what) {
        if (holds) return;
        wrong++;
        System.out.println("README.md: " + what);
    }

    public static void main(String[] args) throws IOException, IllegalAccessException {
        Watchdog.start("ReadmeTest");
        String page = Files.readString(Path.of("README.md"));
        Matcher example = EXAMPLE.matcher(page);
        hold(example.find(), "there is no example");
        int calls = wrong == 0 ? calls(example.group(1)) : 0;
        hold(calls > 20, "its example has " + calls + " calls");
        for (String name : Call.NAMES) hold(page.contains("`" + name + "`"), "no " + name);
        constants(page);
        files(page);
        System.out.println(wrong == 0 ? calls + " calls of README.md are as it says" : wrong + " things aren't as README.md says");
        if (wrong != 0) System.exit(1);
    }

    /** Makes the calls of the example, and tells how many there were. */
    private static int calls(String example) {
        VanRounds office = new VanRounds();
        int calls = 0;
        for (String line : example.lines().skip(1).toList()) {
            if (line.isBlank()) continue;
            Matcher m = CALL.matcher(line);
            hold(m.matches(), "no call with its answer: " + line);
            if (!m.matches()) continue;
            Call call = Call.of(m.group(1) + (m.group(2).isEmpty() ? "" : " " + m.group(2).replace(",", "")));
            int got = call.on(office);
            hold(got == Integer.parseInt(m.group(3)), call + " answered " + got + ", not " + m.group(3));
            calls++;
        }
        return calls;
    }

    private static void constants(String page) throws IllegalAccessException {
        for (Field f : VanRounds.class.getDeclaredFields()) {
            if (!Modifier.isPublic(f.getModifiers())) continue;
            hold(page.contains("| " + f.getInt(null) + " | `" + f.getName() + "` |"), "no " + f.getName());
        }
    }

    /** The files and tests that it names are there, but for the reader's own. */
    private static void files(String page) {
        boolean shared = Files.exists(Path.of("../shared"));
        Matcher file = FILE.matcher(page);
        while (file.find()) {
            String name = file.group();
            if (name.equals("Yours.java") || name.startsWith("../shared") && !shared) continue;
            hold(Files.exists(Path.of(name)), "there is no " + name);
        }
        Matcher test = TEST.matcher(page);
        while (test.find()) {
            hold(Files.exists(Path.of("src/test/java/" + test.group() + ".java")), "there is no test " + test.group());
        }
    }
}
