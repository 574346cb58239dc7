import java.io.IOException;
import java.lang.reflect.Constructor;
import java.lang.reflect.Field;
import java.lang.reflect.Method;
import java.lang.reflect.Modifier;
import java.nio.file.Files;
import java.nio.file.Path;
import java.util.ArrayList;
import java.util.Arrays;
import java.util.List;
import java.util.Map;
import java.util.Set;
import java.util.TreeMap;
import java.util.TreeSet;
import java.util.regex.Matcher;
import java.util.regex.Pattern;

/** The document's public face, and of LANGUAGE.md what can be seen by reflection or from the words. */
public final class FaceTest {
    private static final String FACE = """
        street 3 slow 4 way 3 stop 4 span 2 price 2 van 3 shift 2 look 2 round 2 when 3 cost 1 why 3 where 0 put 3
        pair 4 take 1 move 3 cross 4 turn 3 build 0 better 1 least 0 undo 0 clear 0 count 1 lay 1 tear 0 row 1 copy 3
        status 1""";
    private static final String CONSTANTS = "NONE -1 MISSING -2 BEYOND -3 BELOW -4 KIND -5 COPY -6 NO -7 FULL -8";
    private static final int HIDDEN = Modifier.PRIVATE;

    private static int wrong = 0;

    private static void hold(boolean holds, String what) {
        if (holds) return;
        wrong++;
        System.out.println("not so: " + what);
    }

    public static void main(String[] args) throws Exception {
        Watchdog.start("FaceTest");
        face();
        classesInside();
        words();
        System.out.println(wrong == 0 ? "the face and the rules are kept" : wrong + " rules are not kept");
        if (wrong != 0) System.exit(1);
    }

    private static Map<String, Integer> pairs(String text) {
        Map<String, Integer> pairs = new TreeMap<>();
        String[] words = text.trim().split("\\s+");
        for (int k = 0; k < words.length; k += 2) pairs.put(words[k], Integer.parseInt(words[k + 1]));
        return pairs;
    }

    private static void face() throws IllegalAccessException {
        Class<?> face = VanRounds.class;
        hold(Modifier.isPublic(face.getModifiers()) && Modifier.isFinal(face.getModifiers()), "public and final");
        hold(face.getSuperclass() == Object.class && face.getInterfaces().length == 0, "extends nothing");
        Map<String, Integer> methods = new TreeMap<>();
        for (Method m : face.getDeclaredMethods()) {
            if ((m.getModifiers() & HIDDEN) != 0) continue;
            hold(methods.put(m.getName(), m.getParameterCount()) == null, m.getName() + " is there once");
            hold(m.getModifiers() == Modifier.PUBLIC, m.getName() + " is public and no more");
            hold(m.getReturnType() == int.class, m.getName() + " answers an int");
            for (Class<?> p : m.getParameterTypes()) hold(p == int.class, m.getName() + " takes ints");
        }
        hold(methods.equals(pairs(FACE)), "the document's methods: " + methods);
        Map<String, Integer> constants = new TreeMap<>();
        for (Field f : face.getDeclaredFields()) {
            if ((f.getModifiers() & HIDDEN) != 0) continue;
            hold(f.getModifiers() == (Modifier.PUBLIC | Modifier.STATIC | Modifier.FINAL), f.getName() + " is a constant");
            hold(f.getType() == int.class, f.getName() + " is an int");
            constants.put(f.getName(), f.getInt(null));
        }
        hold(constants.equals(pairs(CONSTANTS)), "the document's constants: " + constants);
        Constructor<?>[] made = face.getDeclaredConstructors();
        hold(made.length == 1 && made[0].getParameterCount() == 0, "one constructor");
        hold(Modifier.isPublic(made[0].getModifiers()), "a public constructor");
    }

    private static void classesInside() {
        Set<String> taken = new TreeSet<>(pairs(FACE).keySet());
        List<Class<?>> all = new ArrayList<>(Arrays.asList(VanRounds.class.getDeclaredClasses()));
        hold(all.size() <= 12, "at most twelve classes");
        for (Class<?> c : all) {
            int m = c.getModifiers();
            hold(Modifier.isStatic(m) && !Modifier.isPublic(m) && !Modifier.isProtected(m), c + " is static and hidden");
        }
        all.add(VanRounds.class);
        for (Class<?> c : all) {
            int fields = 0;
            for (Field f : c.getDeclaredFields()) {
                boolean fixed = Modifier.isStatic(f.getModifiers());
                if (!fixed) fields++;
                else hold(Modifier.isFinal(f.getModifiers()), f + " is final");
            }
            hold(fields <= 20, c + " has some twenty fields");
            for (Method m : c.getDeclaredMethods()) {
                hold(m.getParameterCount() <= 7, m + " takes at most seven");
                boolean hidden = c != VanRounds.class || Modifier.isPrivate(m.getModifiers());
                hold(!hidden || !taken.contains(m.getName()), m + " bears no name of the face");
            }
        }
    }

    /** The source without comments: no word of it may be one that LANGUAGE.md rules out. */
    private static void words() throws IOException {
        Path file = Path.of("src/main/java/VanRounds.java");
        String source = Files.readString(file).replaceAll("(?s)/\\*.*?\\*/", " ").replaceAll("//[^\n]*", " ");
        for (char c : source.toCharArray()) hold(c == '\n' || c >= 32 && c < 127, "sign " + (int) c);
        Matcher banned = Pattern.compile("\\b(package|import|throw|throws|try|catch|finally|synchronized|assert|native|"
                + "volatile|transient|var|yield|equals|hashCode|toString|System\\.(?!arraycopy)\\w+|Thread|Random|"
                + "Exception|Error|Object)\\b|->|::|@|Exact\\b").matcher(source);
        while (banned.find()) hold(false, "the source is without " + banned.group());
        Matcher methods = Pattern.compile("(?m)^( +)[\\w\\[\\] ]+ \\w+\\([^;{]*\\) \\{\\n(?:.*\\n)*?\\1\\}").matcher(source);
        int found = 0;
        while (methods.find()) {
            found++;
            hold(methods.group().lines().count() <= 60, "a short method: " + methods.group().strip().lines().findFirst().get());
        }
        hold(found > 31, "methods are found");
    }
}
