import java.io.IOException;
import java.nio.file.Files;
import java.nio.file.Path;
import java.util.ArrayList;
import java.util.List;
import java.util.Set;
import java.util.regex.Matcher;
import java.util.regex.Pattern;

/**
 * What can be seen in the text of the program: it bears the public face as the document writes it, with the names of
 * all arguments, and keeps to those rules of LANGUAGE.md that its words show. It is run at the project's root.
 */
public final class TickFallSourceTest {
    private static final Path SOURCES = Path.of("src/main/java");
    private static final Path DOCUMENT = Path.of("../shared/DOC.md");

    private static final Set<String> LEFT_OUT = Set.of("import", "package", "try", "catch", "finally", "assert",
            "synchronized", "volatile", "transient", "native", "strictfp", "protected", "equals", "hashCode",
            "toString", "getMessage", "getClass");
    private static final Set<String> EXCEPTIONS = Set.of("IllegalStateException", "IllegalArgumentException",
            "IndexOutOfBoundsException", "ArithmeticException", "UnsupportedOperationException",
            "NoSuchElementException", "RuntimeException");
    private static final Set<String> MATH = Set.of("compare", "max", "min", "abs", "floorDiv", "floorMod");

    private static int wrong = 0;
    private static int looked = 0;

    private static void check(String what, boolean holds) {
        looked++;
        if (!holds) {
            wrong++;
            System.out.println("wrong: " + what);
        }
    }

    private static String onOneLine(String text) {
        return text.replaceAll("\\s+", " ");
    }

    // ---- the face, as the document writes it

    private static List<String> faceOf(String document) {
        List<String> face = new ArrayList<>();
        int start = document.indexOf("```java\n");
        int end = document.indexOf("\n```", start + 1);
        check("the document has a face", start >= 0 && end > start);
        if (start >= 0 && end > start) {
            document.substring(start + 8, end).lines().map(String::trim).filter(line -> line.startsWith("public "))
                    .forEach(face::add);
        }
        return face;
    }

    /** Each line of the face stands in the program, in the document's order: a method's with a body. */
    private static void checkFace(String document, String source) {
        List<String> face = faceOf(document);
        check("the face has its class, its constants, its constructor and its methods", face.size() == 23);
        String text = onOneLine(source);
        int at = 0;
        for (String line : face) {
            String due = line.endsWith(");") || line.contains(" throws ") ? line.replaceFirst(";$", " {") : line;
            int found = text.indexOf(due);
            check("the program says \"" + due + "\", in its place", found >= at);
            at = Math.max(at, found);
        }
    }

    private static void checkParts(String source) {
        String text = onOneLine(source);
        int ahead = text.indexOf("// ---- clocks, links ");
        int behind = text.indexOf("// ---- what is asked ");
        check("the clocks and links are told of as the interface says", ahead > text.indexOf("public TickFall()")
                && ahead < text.indexOf("public int clock("));
        check("what is asked is told of as the interface says", behind > text.indexOf("public boolean adopt(")
                && behind < text.indexOf("public int day("));
    }

    // ---- the rules of LANGUAGE.md

    /** The program without what stands in comments and in texts. */
    private static String bare(String source) {
        return source.replaceAll("(?s)/\\*.*?\\*/", " ").replaceAll("//[^\n]*", " ").replaceAll("\"[^\"\n]*\"", "\"\"");
    }

    private static void checkWords(String code) {
        List<String> own = new ArrayList<>();
        Matcher declared = Pattern.compile("\\bclass (\\w+)").matcher(code);
        while (declared.find()) {
            own.add(declared.group(1));
        }
        check("rule 11: at most twelve classes, not " + own, own.size() <= 12);
        Matcher word = Pattern.compile("[A-Za-z_$][\\w$]*").matcher(code);
        while (word.find()) {
            String it = word.group();
            check("rules 1, 4 and 6: the word " + it, !LEFT_OUT.contains(it));
            if (Character.isUpperCase(it.charAt(0)) && !it.matches("[A-Z][A-Z0-9_]*")) {
                check("rule 4: the name " + it, own.contains(it) || EXCEPTIONS.contains(it) || it.equals("Math"));
            }
        }
        check("rule 2: no lambda", !code.contains("->"));
        check("rule 2: no method reference", !code.contains("::"));
        Matcher math = Pattern.compile("\\bMath\\s*\\.\\s*(\\w+)").matcher(code);
        while (math.find()) {
            check("rule 4: Math." + math.group(1), MATH.contains(math.group(1)));
        }
    }

    private static void checkThrows(String code) {
        Matcher thrown = Pattern.compile("\\bthrow\\b([^;]*);").matcher(code);
        while (thrown.find()) {
            Matcher form = Pattern.compile(" new (\\w+)\\((\"\")?\\)").matcher(thrown.group(1));
            check("rule 6: throw" + thrown.group(1), form.matches() && EXCEPTIONS.contains(form.group(1)));
        }
        check("rule 10: no texts but those of exceptions", code.split("\"\"", -1).length
                == code.split("throw new", -1).length);
    }

    /** A method begins at a line that ends with a brace and opens no statement, and ends at the brace below it. */
    private static void checkLengths(List<String> lines) {
        Pattern head = Pattern.compile("( {4}| {8})(?! |if |for |while |do |switch |\\} |throws )[^=]*[^=;]\\{");
        for (int i = 0; i < lines.size(); i++) {
            Matcher matcher = head.matcher(lines.get(i));
            if (!matcher.matches() || lines.get(i).contains(" class ")) {
                continue;
            }
            int end = lines.subList(i, lines.size()).indexOf(matcher.group(1) + "}");
            check("rule 11: the method at the line " + (i + 1) + " is short", end > 0 && end <= 60);
        }
    }

    public static void main(String[] args) throws IOException {
        String[] files = SOURCES.toFile().list();
        check("the program is one file", files != null && files.length == 1 && files[0].equals("TickFall.java"));
        Path file = SOURCES.resolve("TickFall.java");
        String source = Files.readString(file);
        String document = Files.readString(DOCUMENT);
        check("rule 4: the signs are 1 to 127", source.chars().allMatch(sign -> sign >= 1 && sign <= 127));
        checkFace(document, source);
        checkParts(source);
        checkWords(bare(source));
        checkThrows(bare(source));
        checkLengths(Files.readAllLines(file));
        System.out.println(wrong == 0 ? looked + " places of the program's text are as told" : wrong + " wrong");
        if (wrong != 0) {
            System.exit(1);
        }
    }
}
