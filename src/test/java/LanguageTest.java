import java.io.IOException;
import java.nio.file.Files;
import java.nio.file.Path;
import java.util.List;
import java.util.regex.Matcher;
import java.util.regex.Pattern;

/** What ../shared/LANGUAGE.md rules out and a search can find; run from the project's root, as .ci/run does. */
final class LanguageTest {
    private static final Path SOURCE = Path.of("src", "main", "java", "LightcurveHouse.java");
    private static final int MOST_LINES = 60, MOST_CLASSES = 12;
    private static final List<String> BANNED = List.of("->", "::", "\\bfinally\\b", "\\bsynchronized\\b", "\\bassert\\b",
            "Exact\\b", "\\bcatch\\b", "\\bpackage\\b", "\\bdouble\\b", "\\bfloat\\b", "\\bequals\\b", "\\bhashCode\\b",
            "\\btoString\\b", "\\bSystem\\.(?!arraycopy)", "\\bMath\\.(?!min|max|abs|floorDiv|floorMod)", "\\bArrays\\b",
            "\\bwhile \\(true\\)", "for \\(;;\\)", "\\bvolatile\\b", "\\btransient\\b", "@");

    private LanguageTest() { }

    static void run() {
        Check.test("language: nothing that is ruled out", () -> {
            String text = source();
            nothingBanned(text);
            methodsAreShort(text);
        });
    }

    private static String source() {
        try {
            String text = Files.readString(SOURCE);
            Check.due("signs above 126", text.chars().filter(c -> c > 126).count(), 0);
            return text.replaceAll("(?s)/\\*.*?\\*/", "").replaceAll("//[^\n]*", "").replaceAll("\"[^\"\n]*\"", "\"\"");
        } catch (IOException e) {
            Check.wrong("cannot read " + SOURCE);
            return "";
        }
    }

    private static void nothingBanned(String text) {
        for (String banned : BANNED) {
            Matcher found = Pattern.compile(banned).matcher(text);
            if (found.find()) {
                Check.wrong("holds " + found.group());
            }
        }
        Matcher imports = Pattern.compile("import ([\\w.*]+);").matcher(text);
        while (imports.find()) {
            Check.due("import of " + imports.group(1), imports.group(1).equals("java.util.ArrayList"), true);
        }
        Matcher thrown = Pattern.compile("throw (?!new (IndexOutOfBounds|IllegalArgument|IllegalState)Exception\\(\"\"\\);)")
                .matcher(text);
        Check.due("another throw", thrown.find(), false);
        int classes = text.split("\\b(class|interface|enum|record) [A-Z]", -1).length - 1;
        Check.due("more classes than " + MOST_CLASSES + ": " + classes, classes > MOST_CLASSES, false);
    }

    /** A method's head and its end stand alike far in, as the whole file is written. */
    private static void methodsAreShort(String text) {
        String[] lines = text.split("\n", -1);
        int head = 0;
        for (int i = 0; i < lines.length; i++) {
            if (lines[i].matches("    {1,2}(    )?\\S.*\\) ?(throws .*)?\\{")) {
                head = i;
            } else if (lines[i].matches("    (    )?}")) {
                Check.due("the method that ends in line " + (i + 1) + " is long", i - head > MOST_LINES && head > 0, false);
                head = 0;
            }
        }
    }
}
