import java.io.IOException;
import java.nio.file.Files;
import java.nio.file.Path;
import java.util.ArrayList;
import java.util.Arrays;
import java.util.List;
import java.util.Map;
import java.util.TreeMap;
import java.util.regex.Matcher;
import java.util.regex.Pattern;

/**
 * The sentences of ../shared/DOC.md, by promise, the terms being 0: what a test names must stand there, and
 * what no test has named is found.
 */
final class Document {
    private static final Path PATH = Path.of("..", "shared", "DOC.md");
    private static final Pattern HEADING = Pattern.compile("## Promise (\\d+): .*");
    private static final Map<Integer, String> TEXTS = read();
    private static final Map<Integer, boolean[]> NAMED = new TreeMap<>();

    private Document() { }

    /** Marks a sentence as named by a test; says whether the document has it there. */
    static boolean name(int promise, String sentence) {
        String text = TEXTS.getOrDefault(promise, "");
        boolean[] named = NAMED.computeIfAbsent(promise, any -> new boolean[text.length()]);
        int at = text.indexOf(sentence);
        boolean isThere = at >= 0 && !sentence.isEmpty();
        while (at >= 0 && isThere) {
            Arrays.fill(named, at, at + sentence.length(), true);
            at = text.indexOf(sentence, at + sentence.length());
        }
        return isThere;
    }

    /** Every stretch of the document, with a letter or a digit in it, that no test has named. */
    static void findUnnamed() {
        for (int promise : TEXTS.keySet()) {
            String text = TEXTS.get(promise);
            boolean[] named = NAMED.getOrDefault(promise, new boolean[text.length()]);
            StringBuilder rest = new StringBuilder();
            for (int i = 0; i < text.length(); i++) {
                rest.append(named[i] ? '\n' : text.charAt(i));
            }
            for (String stretch : rest.toString().split("\n+")) {
                if (stretch.matches(".*[A-Za-z0-9].*")) {
                    Check.wrong("no test names, of promise " + promise + ": " + stretch.strip());
                }
            }
        }
    }

    /** The lines of the public face, from that of the class on, without their ends. */
    static List<String> face() {
        List<String> face = new ArrayList<>();
        boolean isCode = false;
        for (String line : lines()) {
            isCode = line.startsWith("```") ? !isCode : isCode;
            if (isCode && line.strip().startsWith("public ")) {
                face.add(line.strip().replaceFirst(" ?[;{]$", ""));
            }
        }
        return face;
    }

    private static List<String> lines() {
        try {
            return Files.readAllLines(PATH);
        } catch (IOException e) {
            System.out.println("cannot read " + PATH);
            return List.of();
        }
    }

    private static Map<Integer, String> read() {
        Map<Integer, String> texts = new TreeMap<>();
        int promise = 0;
        boolean isCode = false;
        for (String line : lines()) {
            if (line.equals("## Not promised")) {
                break;
            }
            Matcher heading = HEADING.matcher(line);
            promise = heading.matches() ? Integer.parseInt(heading.group(1)) : promise;
            isCode = line.startsWith("```") ? !isCode : isCode;
            if (!isCode && !isNoSentence(line)) {
                texts.merge(promise, plain(promise, line) + "\n", String::concat);
            }
        }
        return texts;
    }

    /** Headings, the ends of code, the first line, which the rest tells again, and what the face's parts are called. */
    private static boolean isNoSentence(String line) {
        return line.startsWith("#") || line.startsWith("```") || line.matches("[A-Z][a-z]+, [a-z]+")
                || line.startsWith("Stars that do not keep still:") || line.startsWith("Ahead of the calls ");
    }

    /** Without the marks, and, in a promise, without the face of the call, at which FaceTest looks. */
    private static String plain(int promise, String line) {
        String sentence = promise > 0 ? line.replaceFirst("^`[^`]*`: ", "") : line;
        return sentence.replaceFirst("^- ", "").replace("`", "").strip();
    }
}
