import java.lang.reflect.Constructor;
import java.lang.reflect.Field;
import java.lang.reflect.Method;
import java.lang.reflect.Modifier;
import java.nio.file.Files;
import java.nio.file.Path;
import java.util.Set;
import java.util.TreeSet;
import java.util.regex.Matcher;
import java.util.regex.Pattern;

/** The public face is the document's, and nothing else of the class can be seen. */
public final class FaceTest {
    private static final String[] METHODS = {
        "int type(int)", "int clear()", "int ward()", "int bottle(int,int)", "int now(int)",
        "int hour()", "int fills(int,int)", "int lays(int,int)", "int spills(int)",
        "int frosts(int)", "int boils()", "int undo()", "int morning(int,int)", "int kept(int)",
        "int beds(int)", "int odds(int,int,int,int)", "int hears(int,int)", "int forget()",
        "int who()", "int listen()", "int rate(int,int)", "int keep(int)", "int back(int)",
        "int count(int)", "long trace()"
    };

    public static void main(String[] args) throws Exception {
        constants();
        methods();
        members();
        asInDocument();
        Check.end("FaceTest");
    }

    private static void constants() throws Exception {
        Object[][] due = {{"BAD", -1}, {"STATE", -2}, {"FULL", -3}, {"NONE", -9}, {"NO", -1000000}};
        int seen = 0;
        for (Field field : WarmBottles.class.getDeclaredFields()) {
            if (!Modifier.isPrivate(field.getModifiers())) {
                seen++;
            }
        }
        Check.due("fields that can be seen", seen, due.length);
        for (Object[] pair : due) {
            Field field = WarmBottles.class.getField((String) pair[0]);
            Check.isTrue(pair[0] + " is an int", field.getType() == int.class);
            Check.isTrue(pair[0] + " is constant",
                    field.getModifiers() == (Modifier.PUBLIC | Modifier.STATIC | Modifier.FINAL));
            Check.due((String) pair[0], field.getInt(null), (Integer) pair[1]);
        }
    }

    private static void methods() {
        Set<String> due = new TreeSet<>(Set.of(METHODS));
        Set<String> names = new TreeSet<>();
        for (String method : METHODS) {
            names.add(method.substring(method.indexOf(' ') + 1, method.indexOf('(')));
        }
        for (Method method : WarmBottles.class.getDeclaredMethods()) {
            if (Modifier.isPrivate(method.getModifiers())) {
                Check.isTrue("private " + method.getName() + " bears no public name",
                        !names.contains(method.getName()));
                continue;
            }
            Check.due("modifiers of " + method, method.getModifiers(), Modifier.PUBLIC);
            Check.isTrue("the document has " + signature(method), due.remove(signature(method)));
        }
        Check.isTrue("no method is missing: " + due, due.isEmpty());
    }

    private static String signature(Method method) {
        StringBuilder all = new StringBuilder();
        for (Class<?> type : method.getParameterTypes()) {
            all.append(all.length() == 0 ? "" : ",").append(type.getName());
        }
        return method.getReturnType().getName() + " " + method.getName() + "(" + all + ")";
    }

    private static void members() {
        Check.due("modifiers of the class", WarmBottles.class.getModifiers(),
                Modifier.PUBLIC | Modifier.FINAL);
        Constructor<?>[] made = WarmBottles.class.getDeclaredConstructors();
        Check.due("constructors", made.length, 1);
        Check.due("its modifiers", made[0].getModifiers(), Modifier.PUBLIC);
        Check.due("its parameters", made[0].getParameterCount(), 0);
        for (Class<?> inside : WarmBottles.class.getDeclaredClasses()) {
            int modifiers = inside.getModifiers();
            Check.isTrue(inside + " is static", Modifier.isStatic(modifiers));
            Check.isTrue(inside + " can't be seen",
                    !Modifier.isPublic(modifiers) && !Modifier.isProtected(modifiers));
        }
    }

    /** The declarations stand in the source as in the document, in its order, under its headings. */
    private static void asInDocument() throws Exception {
        Path page = Path.of(System.getProperty("warmBottles.shared", "../shared"), "DOC.md");
        if (!Files.isReadable(page)) {
            System.out.println("no document at " + page + ": the order of the calls is not looked at");
            return;
        }
        String document = Files.readString(page);
        String source = Files.readString(
                Path.of(System.getProperty("warmBottles.source", "src/main/java/WarmBottles.java")));
        Matcher declared = Pattern.compile("(?m)^ {4}public ([^;]*);$").matcher(document);
        int found = 0;
        int last = source.indexOf("public final class WarmBottles {");
        while (declared.find()) {
            found++;
            String line = "\n    public " + declared.group(1) + (declared.group(1).endsWith(")") ? " {" : ";");
            int at = source.indexOf(line);
            Check.isTrue("behind the one ahead of it: " + line.strip(), last >= 0 && at > last);
            last = at;
        }
        Check.due("declarations in the document", found, 2 + 1 + METHODS.length);
        underHeadings(document, source);
    }

    private static void underHeadings(String document, String source) {
        Matcher heading = Pattern.compile(
                "Ahead of the calls (`[^-]*`) the interface says: (---- [^.]*)\\.").matcher(document);
        int headed = 0;
        while (heading.find()) {
            int from = source.indexOf("\n    // " + heading.group(2) + "\n");
            Check.isTrue("the source says " + heading.group(2), from >= 0);
            int to = source.indexOf("\n    // ---- ", from + 1);
            String part = source.substring(Math.max(0, from), to < 0 ? source.length() : to);
            String[] names = heading.group(1).replace("`", "").split(", ");
            headed += names.length;
            for (String name : names) {
                Check.isTrue(name + " under " + heading.group(2), part.contains(" " + name + "("));
            }
            Check.due("calls under " + heading.group(2), part.split("\n    public ").length - 1, names.length);
        }
        Check.due("calls under headings", headed, METHODS.length);
    }
}
