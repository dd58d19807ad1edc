import java.nio.file.Files;
import java.nio.file.Path;
import java.util.HashSet;
import java.util.List;
import java.util.Set;
import java.util.regex.Matcher;
import java.util.regex.Pattern;

/** What of ../shared/LANGUAGE.md can be seen in the letters of the source. */
public final class LanguageTest {
    private static final String[] FORBIDDEN = {
        "throw", "throws", "try", "catch", "finally", "synchronized", "assert", "yield", "record",
        "double", "float", "volatile", "transient", "native", "var", "goto", "protected",
        "hashCode", "toString\\s*\\(\\s*\\)\\s*\\{", "Exact", "System\\.(?!arraycopy)", "->", "::",
        "Random", "Thread", "Object", "Class", "Exception", "Error", "package", "import"
    };

    public static void main(String[] args) throws Exception {
        String named = System.getProperty("warmBottles.source", "src/main/java/WarmBottles.java");
        String source = Files.readString(Path.of(named));
        for (char letter : source.toCharArray()) {
            Check.isTrue("letter " + (int) letter + " is plain", letter < 128 && letter != '\t');
        }
        String code = withoutComments(source);
        for (String word : FORBIDDEN) {
            String whole = Character.isLetter(word.charAt(0)) ? "\\b" + word : word;
            whole = Character.isLetter(word.charAt(word.length() - 1)) ? whole + "\\b" : whole;
            Check.isTrue("nothing of " + word, !Pattern.compile(whole).matcher(code).find());
        }
        Check.isTrue("at most twelve classes", number(code, "\\bclass\\s+\\w+") <= 12);
        Check.due("texts joined by +", number(code, "\"\\s*\\+|\\+\\s*\""), 0);
        methods(code);
        making(code);
        Check.end("LanguageTest");
    }

    private static String withoutComments(String source) {
        return source.replaceAll("(?s)/\\*.*?\\*/", "").replaceAll("//[^\\n]*", "");
    }

    private static int number(String code, String pattern) {
        Matcher matcher = Pattern.compile(pattern).matcher(code);
        int number = 0;
        while (matcher.find()) {
            number++;
        }
        return number;
    }

    /** All is made in constructors and for fields: so no call makes anything. */
    private static void making(String code) {
        Pattern head = Pattern.compile("^ {4,8}((?:\\w+ )*)(\\w+)\\([^)]*\\) \\{$");
        boolean inConstructor = false;
        int made = 0;
        for (String line : code.lines().toList()) {
            Matcher matcher = head.matcher(line.replace("[]", ""));
            if (matcher.matches()) {
                inConstructor = matcher.group(1).replace("public ", "").isEmpty();
            }
            if (line.matches(".*\\bnew\\b.*")) {
                made++;
                boolean forField = line.matches("^ {4,8}(private )?final [\\w\\[\\]]+ \\w+ = new .*");
                Check.isTrue("made by a constructor, or for a field:" + line, inConstructor || forField);
            }
        }
        Check.isTrue("what is made was found", made > 10);
    }

    /** Methods stay short, have few parameters, and none inside bears the name of a public one. */
    private static void methods(String code) {
        Pattern head = Pattern.compile(
                "^ {4,8}((?:\\w+ )*)[\\w\\[\\]]+ (\\w+)\\(([^)]*)\\) \\{$");
        Set<String> open = new HashSet<>();
        Set<String> hidden = new HashSet<>();
        List<String> lines = code.lines().toList();
        for (int at = 0; at < lines.size(); at++) {
            Matcher matcher = head.matcher(lines.get(at));
            if (!matcher.matches() || lines.get(at).contains(" new ")) {
                continue;
            }
            (matcher.group(1).contains("public") ? open : hidden).add(matcher.group(2));
            Check.isTrue(matcher.group(2) + " takes few", matcher.group(3).split(",").length <= 7);
            String close = lines.get(at).replaceAll("\\S.*", "") + "}";
            int end = at;
            while (end < lines.size() - 1 && !lines.get(end).equals(close)) {
                end++;
            }
            Check.isTrue(matcher.group(2) + " is short", end - at <= 60);
        }
        Check.due("public methods that were found", open.size(), 25);
        Check.isTrue("private methods were found", hidden.size() > 20);
        hidden.retainAll(open);
        Check.isTrue("names that are twice: " + hidden, hidden.isEmpty());
    }
}
