import java.lang.reflect.Method;
import java.lang.reflect.Modifier;
import java.nio.file.Files;
import java.nio.file.Path;
import java.util.List;
import java.util.Set;
import java.util.TreeSet;
import java.util.regex.Matcher;
import java.util.regex.Pattern;

/** What README.md shows as calls and answers holds, and it leaves no call and no test out. */
public final class ReadmeTest {
    private static final Pattern MADE = Pattern.compile("WarmBottles x = new WarmBottles\\(\\);");
    private static final Pattern TEXT = Pattern.compile("String text = \"([^\"]*)\";");
    private static final Pattern CALL =
            Pattern.compile("x\\.(\\w+)\\(([^)]*)\\); +// (-?\\d+|[A-Z]+)(:.*)?");
    private static final String FOR = "for (int i = 0; i < text.length(); i++) {";
    private static final String TYPES = "x.type(text.charAt(i));";

    private static final Set<String> SHOWN = new TreeSet<>();
    private static WarmBottles ward = new WarmBottles();
    private static String text = "";

    public static void main(String[] args) throws Exception {
        Path path = Path.of(System.getProperty("warmBottles.readme", "README.md"));
        String page = Files.readString(path);
        boolean inCode = false;
        for (String line : page.lines().toList()) {
            if (line.startsWith("```")) {
                inCode = line.equals("```java");
            } else if (inCode) {
                follow(line.strip());
            }
        }
        eachCallIsShown();
        eachTestIsNamed(page, path.toAbsolutePath().resolveSibling("src/test/java"));
        Check.end("ReadmeTest");
    }

    /** A line of the page that is neither known nor asked would be a line that nobody has looked at. */
    private static void follow(String line) throws Exception {
        Matcher told = TEXT.matcher(line);
        Matcher call = CALL.matcher(line);
        if (MADE.matcher(line).matches()) {
            ward = new WarmBottles();
        } else if (told.matches()) {
            text = told.group(1);
        } else if (line.equals(TYPES)) {
            Wards.type(ward, text);
        } else if (call.matches()) {
            SHOWN.add(call.group(1));
            Check.due("README.md: " + line, answer(call.group(1), call.group(2)), due(call.group(3)));
        } else {
            Check.isTrue("README.md: can be followed: " + line, line.equals(FOR) || line.equals("}"));
        }
    }

    private static long answer(String name, String list) throws Exception {
        String[] words = list.isEmpty() ? new String[0] : list.split(", ");
        Class<?>[] types = new Class<?>[words.length];
        Object[] numbers = new Object[words.length];
        for (int i = 0; i < words.length; i++) {
            types[i] = int.class;
            numbers[i] = words[i].matches("'.'") ? words[i].charAt(1) : Integer.parseInt(words[i]);
        }
        return ((Number) WarmBottles.class.getMethod(name, types).invoke(ward, numbers)).longValue();
    }

    private static long due(String word) throws Exception {
        boolean number = word.matches("-?\\d+");
        return number ? Long.parseLong(word) : WarmBottles.class.getField(word).getInt(null);
    }

    private static void eachCallIsShown() {
        for (Method method : WarmBottles.class.getDeclaredMethods()) {
            if (Modifier.isPublic(method.getModifiers())) {
                Check.isTrue("README.md shows " + method.getName(), SHOWN.contains(method.getName()));
            }
        }
    }

    private static void eachTestIsNamed(String page, Path folder) throws Exception {
        try (var files = Files.list(folder)) {
            List<String> names = files.map(file -> file.getFileName().toString())
                    .filter(name -> name.endsWith("Test.java")).toList();
            Check.isTrue("tests are found in " + folder, names.size() > 1);
            for (String name : names) {
                String test = "`" + name.replace(".java", "") + "`";
                Check.isTrue("README.md names " + test, page.contains("| " + test + " |"));
            }
        }
    }
}
