import java.nio.file.Files;
import java.nio.file.Path;
import java.util.ArrayList;
import java.util.Arrays;
import java.util.List;
import java.util.function.Supplier;
import java.util.function.ToLongFunction;

/** One sentence of the document: each test names its promise and quotes its words. */
final class Sentence {
    private static final List<String> QUOTES = new ArrayList<>();
    private static String named = "";

    private Sentence() {
    }

    static void holds(int promise, String words, Runnable test) {
        named = "promise " + promise + ", \"" + words + "\"";
        QUOTES.add(words);
        int before = Check.asked();
        test.run();
        Check.isTrue(named + " has a test", Check.asked() > before);
    }

    static void due(String call, long got, long want) {
        Check.due(named + ": " + call, got, want);
    }

    static void same(String what, String got, String want) {
        Check.isTrue(named + ": " + what, got.equals(want));
    }

    /** A call answers so, and wards made alike are behind it as they would be without it. */
    static void changesNothing(String call, Supplier<WarmBottles> made,
            ToLongFunction<WarmBottles> ask, long want) {
        due(call, ask.applyAsLong(made.get()), want);
        Supplier<WarmBottles> asked = () -> {
            WarmBottles x = made.get();
            ask.applyAsLong(x);
            return x;
        };
        same(call + " changes nothing", Wards.everything(asked), Wards.everything(made));
    }

    /** Each quotation stands in the document, and together they leave no word of its promises out. */
    static void lookAtDocument() throws Exception {
        Path path = Path.of(System.getProperty("warmBottles.shared", "../shared"), "DOC.md");
        if (!Files.isReadable(path)) {
            System.out.println("no document at " + path + ": the quotations are not looked at");
            return;
        }
        String document = plain(Files.readString(path));
        boolean[] quoted = new boolean[document.length()];
        for (String words : QUOTES) {
            int at = document.indexOf(words);
            Check.isTrue("the document says \"" + words + "\"", at >= 0);
            for (; at >= 0; at = document.indexOf(words, at + 1)) {
                Arrays.fill(quoted, at, at + words.length(), true);
            }
        }
        int from = document.indexOf("(6 at most): WARM");
        int to = document.indexOf("## Not promised");
        Check.isTrue("the document's promises are found", from >= 0 && to > from);
        StringBuilder rest = new StringBuilder();
        for (int i = Math.max(0, from); i < to; i++) {
            rest.append(quoted[i] ? '\n' : document.charAt(i));
        }
        for (String words : withoutHeadings(rest.toString()).split("\n+")) {
            Check.isTrue("has a test: \"" + words + "\"", !words.matches(".*[A-Za-z0-9].*"));
        }
    }

    private static String plain(String text) {
        return text.replaceAll("\\s+", " ");
    }

    /** Without what is no promise: headings, signatures, the comments of the interface. */
    private static String withoutHeadings(String text) {
        return text.replaceAll("## Promise \\d+: [^`]*`[^`]*`:?", "\n")
                .replaceAll("======== [234]", "\n")
                .replaceAll("```(text)?|The constants:", "\n")
                .replaceAll("Ahead of the calls [^-]*---- [^.]*\\.", "\n");
    }
}
