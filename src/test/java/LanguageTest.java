import java.io.IOException;
import java.nio.file.Files;
import java.nio.file.Path;
import java.util.Arrays;
import java.util.List;
import java.util.regex.Matcher;
import java.util.regex.Pattern;

/** Those rules of LANGUAGE.md that can be seen in the text of the class. */
public final class LanguageTest {
    private static final Path SOURCE = Path.of("src/main/java/NetUnfolder.java");
    private static final List<String> FORBIDDEN = Arrays.asList(
            "->", "::", "finally", "synchronized", "assert", "getMessage", "Exact(", "volatile", "native",
            "Thread", "Random", "System.", "hashCode", "equals(", "toString", "strictfp", "Object", "float",
            "double", "Class", "package ", "static {", "@Override", "var ", "yield ");
    private static final Pattern METHOD = Pattern.compile(
            "^ +(?:(?:public|private|static|final) )*(?:[\\w\\[\\]]+ )?(\\w+)\\(([^()]*)\\)\\s*(?:throws [\\w, ]+)?\\{",
            Pattern.MULTILINE);

    public static void main(String[] args) throws IOException {
        String code = Files.readString(SOURCE).replaceAll("(?s)/\\*.*?\\*/", "").replaceAll("//[^\n]*", "");
        library(code);
        exceptions(code);
        methods(code);
        objectsOnlyInConstructors(code);
        Checks.end();
    }

    private static void library(String code) {
        Checks.about("rules 2 to 6 and 13: what the text may not have");
        for (String word : FORBIDDEN) {
            Checks.that("no " + word, !code.contains(word));
        }
        Matcher imports = Pattern.compile("import ([\\w.]+);").matcher(code);
        while (imports.find()) {
            Checks.sameText("import", imports.group(1), "java.util.Arrays");
        }
        Matcher calls = Pattern.compile("\\b(Arrays|Integer|Long)\\.(\\w+)").matcher(code);
        while (calls.find()) {
            Checks.sameText("library", calls.group(2), calls.group(1).equals("Arrays") ? "fill" : "bitCount");
        }
    }

    private static void exceptions(String code) {
        Checks.about("rule 6: throw new E(), and no try");
        Matcher thrown = Pattern.compile("\\bthrow\\b([^;]*);").matcher(code);
        while (thrown.find()) {
            Checks.that("throw" + thrown.group(1), thrown.group(1).matches(" new Illegal(Argument|State)Exception\\(\\)"));
        }
        Checks.that("no try", !Pattern.compile("\\b(try|catch)\\b").matcher(code).find());
    }

    private static void methods(String code) {
        Checks.about("rule 11: at most seven parameters, some sixty lines");
        Matcher method = METHOD.matcher(code);
        int found = 0;
        while (method.find()) {
            if (!Arrays.asList("if", "for", "while", "switch").contains(method.group(1))) {
                found++;
                Checks.that(method.group(1) + ": parameters", method.group(2).split(",").length <= 7);
                Checks.that(method.group(1) + ": lines", linesOfBody(code, method.end()) <= 60);
            }
        }
        Checks.that("the methods were found: " + found, found > 60);
    }

    private static int linesOfBody(String code, int from) {
        int lines = 1;
        int open = 1;
        for (int i = from; i < code.length() && open > 0; i++) {
            char c = code.charAt(i);
            open += c == '{' ? 1 : c == '}' ? -1 : 0;
            lines += c == '\n' ? 1 : 0;
        }
        return lines;
    }

    /** So no call makes an object: a run has no more of them than a new object has. */
    private static void objectsOnlyInConstructors(String code) {
        Checks.about("rule 12: what a run makes is kept small");
        for (String line : code.split("\n")) {
            if (line.contains("new ") && !line.contains("throw new ")) {
                boolean field = line.matches(" +(private )?final [\\w\\[\\]]+ \\w+ = new .*;");
                boolean constructor = line.matches(" +(this\\.)?\\w+ = new [A-Z]\\w*\\([\\w, ]*\\);");
                Checks.that("made once:" + line, field || constructor);
            }
        }
    }
}
