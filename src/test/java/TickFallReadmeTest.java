import java.io.ByteArrayOutputStream;
import java.io.File;
import java.io.IOException;
import java.io.PrintStream;
import java.lang.reflect.Field;
import java.lang.reflect.InvocationTargetException;
import java.lang.reflect.Method;
import java.lang.reflect.Modifier;
import java.net.URL;
import java.net.URLClassLoader;
import java.nio.file.Files;
import java.nio.file.Path;
import java.util.ArrayList;
import java.util.HashSet;
import java.util.List;
import java.util.Set;
import java.util.regex.Matcher;
import java.util.regex.Pattern;
import javax.tools.JavaCompiler;
import javax.tools.ToolProvider;

/**
 * The calls which README.md shows compile against the class and answer as README.md says; and it shows each public
 * method and constant, and names each test. It is looked for where the test is run: at the project's root.
 */
public final class TickFallReadmeTest {
    private static final Path README = Path.of("README.md");
    private static final Path TESTS = Path.of("src/test/java");

    /** A line of a piece of code: one statement, and behind it what it answers, throws or prints. */
    private static final Pattern LINE = Pattern.compile("\\s*([^;]*;)\\s*(?://\\s*(.*))?");
    private static final Pattern TOLD = Pattern.compile("(answers|throws|prints) ([\\w.-]+)(?:: .*)?");
    private static final Pattern DECLARED = Pattern.compile("int \\w+ = (.*);");
    private static final Pattern CALL = Pattern.compile("\\bx\\.(\\w+)\\(");
    private static final Pattern TEST_NAME = Pattern.compile("\\bTickFall\\w*Test\\b");
    private static final Pattern PROGRAM = Pattern.compile("public final class (\\w+) \\{");

    private static final Set<String> SHOWN = new HashSet<>();
    private static int wrong = 0;
    private static int told = 0;

    private static void complain(String text) {
        wrong++;
        System.out.println(README + ": " + text);
    }

    /** A piece of code, from the line with a number. */
    private static final class Piece {
        final List<String> lines = new ArrayList<>();
        final int start;

        Piece(int start) {
            this.start = start;
        }

        boolean isProgram() {
            return !lines.isEmpty() && PROGRAM.matcher(lines.get(0)).matches();
        }
    }

    /** All pieces of code; a call that stands outside of them would not be tried, so there must be none. */
    private static List<Piece> piecesOf(List<String> lines) {
        List<Piece> pieces = new ArrayList<>();
        Piece open = null;
        for (int i = 0; i < lines.size(); i++) {
            String line = lines.get(i);
            if (open == null && line.equals("```java")) {
                open = new Piece(i + 2);
                pieces.add(open);
            } else if (line.startsWith("```")) {
                if (open == null) {
                    complain("line " + (i + 1) + " opens a piece of code that is not called java");
                }
                open = null;
            } else if (open != null) {
                open.lines.add(line);
            } else if (CALL.matcher(line).find()) {
                complain("line " + (i + 1) + " shows a call outside of a piece of code");
            }
        }
        return pieces;
    }

    /** The exception's class itself: what the machine throws is of a class below it. */
    private static String thrownBy(Throwable thrown) {
        return "throws " + thrown.getClass().getName().replaceFirst("^java\\.lang\\.", "");
    }

    /** Called from the code that is made of a piece. */
    public static void due(int line, Object got, Object want) {
        told++;
        if (!got.equals(want)) {
            complain("line " + line + " says " + want + ", but it is " + got);
        }
    }

    public static void dueThrown(int line, Throwable thrown, String want) {
        due(line, thrownBy(thrown), want);
    }

    // ---- code that is made of a piece

    private static String codeOf(Piece piece, String name) {
        StringBuilder code = new StringBuilder("public final class " + name + " {\n public static void run() {\n");
        for (int i = 0; i < piece.lines.size(); i++) {
            code.append(tried(piece.lines.get(i), piece.start + i)).append('\n');
        }
        return code.append(" }\n}\n").toString();
    }

    /** A statement with a try of what is told of it. */
    private static String tried(String text, int line) {
        Matcher parts = LINE.matcher(text);
        if (!parts.matches()) {
            complain("line " + line + " is not one statement");
            return "";
        }
        String statement = parts.group(1);
        Matcher comment = TOLD.matcher(parts.group(2) == null ? "" : parts.group(2));
        Matcher call = CALL.matcher(statement);
        String method = call.find() ? call.group(1) : "";
        if (!comment.matches() || comment.group(1).equals("prints")) {
            if (!method.isEmpty() && isAnswering(method)) {
                complain("line " + line + " does not say what " + method + " answers");
            }
            return statement;
        }
        return comment.group(1).equals("answers")
                ? triedAnswer(statement, line, comment.group(2)) : triedThrow(statement, line, comment.group(2));
    }

    private static String triedAnswer(String statement, int line, String want) {
        Matcher declared = DECLARED.matcher(statement);
        if (declared.matches()) {
            String name = statement.split(" ")[1];
            return statement + " TickFallReadmeTest.due(" + line + ", " + name + ", " + want + ");";
        }
        String call = statement.substring(0, statement.length() - 1);
        return "TickFallReadmeTest.due(" + line + ", " + call + ", " + want + ");";
    }

    private static String triedThrow(String statement, int line, String want) {
        String due = "\"throws " + want + "\"";
        return "{ RuntimeException t = null; try { " + statement + " } catch (RuntimeException e) { t = e; }"
                + " if (t == null) TickFallReadmeTest.due(" + line + ", \"nothing thrown\", " + due + ");"
                + " else TickFallReadmeTest.dueThrown(" + line + ", t, " + due + "); }";
    }

    private static boolean isAnswering(String name) {
        for (Method method : TickFall.class.getDeclaredMethods()) {
            if (method.getName().equals(name) && Modifier.isPublic(method.getModifiers())) {
                return method.getReturnType() != void.class;
            }
        }
        return false;
    }

    // ---- programs as a whole

    private static String nameOf(Piece program) {
        Matcher name = PROGRAM.matcher(program.lines.get(0));
        return name.matches() ? name.group(1) : "";
    }

    private static List<String> printsOf(Piece program) {
        List<String> prints = new ArrayList<>();
        for (String line : program.lines) {
            Matcher comment = TOLD.matcher(line.contains("// ") ? line.substring(line.indexOf("// ") + 3) : "");
            if (line.contains("System.out.println") && !comment.matches()) {
                complain("\"" + line.trim() + "\" does not say what it prints");
            }
            if (comment.matches()) {
                prints.add(comment.group(2));
            }
        }
        return prints;
    }

    private static List<String> printedBy(Class<?> program) throws ReflectiveOperationException {
        PrintStream before = System.out;
        ByteArrayOutputStream printed = new ByteArrayOutputStream();
        System.setOut(new PrintStream(printed, true));
        try {
            program.getMethod("main", String[].class).invoke(null, (Object) new String[0]);
        } finally {
            System.setOut(before);
        }
        return printed.toString().lines().toList();
    }

    // ---- all pieces

    private static void tryPieces(List<Piece> pieces, Path room) throws IOException, ReflectiveOperationException {
        JavaCompiler compiler = ToolProvider.getSystemJavaCompiler();
        if (compiler == null) {
            complain("there is no compiler to try it");
            return;
        }
        for (int i = 0; i < pieces.size(); i++) {
            Piece piece = pieces.get(i);
            String name = piece.isProgram() ? nameOf(piece) : "Piece" + i;
            String code = piece.isProgram() ? String.join("\n", piece.lines) : codeOf(piece, name);
            Path file = Files.writeString(room.resolve(name + ".java"), code);
            String path = System.getProperty("java.class.path");
            if (compiler.run(null, null, null, "--release", "17", "-cp", path, "-d", room.toString(),
                    file.toString()) != 0) {
                complain("the piece of code from the line " + piece.start + " on does not compile");
                continue;
            }
            runPiece(piece, name, room);
        }
    }

    private static void runPiece(Piece piece, String name, Path room) throws IOException, ReflectiveOperationException {
        URL[] where = {room.toUri().toURL()};
        try (URLClassLoader loader = new URLClassLoader(where, TickFallReadmeTest.class.getClassLoader())) {
            Class<?> made = loader.loadClass(name);
            if (piece.isProgram()) {
                due(piece.start, printedBy(made), printsOf(piece));
            } else {
                made.getMethod("run").invoke(null);
            }
        } catch (InvocationTargetException e) {
            complain("the piece of code from the line " + piece.start + " on " + thrownBy(e.getCause()));
        }
    }

    // ---- what it shows

    private static void gatherShown(List<Piece> pieces) {
        for (Piece piece : pieces) {
            for (String line : piece.lines) {
                Matcher word = Pattern.compile("(?:\\bx|\\bTickFall)\\.(\\w+)").matcher(line);
                while (word.find()) {
                    SHOWN.add(word.group(1));
                }
            }
        }
    }

    private static void checkAllIsShown() {
        for (Method method : TickFall.class.getDeclaredMethods()) {
            if (Modifier.isPublic(method.getModifiers()) && !SHOWN.contains(method.getName())) {
                complain("the method " + method.getName() + " is not shown");
            }
        }
        for (Field field : TickFall.class.getDeclaredFields()) {
            if (Modifier.isPublic(field.getModifiers()) && !SHOWN.contains(field.getName())) {
                complain("the constant " + field.getName() + " is not shown");
            }
        }
    }

    private static void checkTestsAreNamed(List<String> lines) {
        Set<String> named = new HashSet<>();
        for (String line : lines) {
            Matcher name = TEST_NAME.matcher(line);
            while (name.find()) {
                named.add(name.group());
            }
        }
        Set<String> found = new HashSet<>();
        String[] files = TESTS.toFile().list();
        for (String file : files == null ? new String[0] : files) {
            found.add(file.replaceFirst("\\.java$", ""));
        }
        if (!named.equals(found)) {
            complain("names the tests " + named + ", but there are " + found);
        }
    }

    private static void clear(Path room) throws IOException {
        File[] files = room.toFile().listFiles();
        for (File file : files == null ? new File[0] : files) {
            Files.delete(file.toPath());
        }
        Files.delete(room);
    }

    public static void main(String[] args) throws IOException, ReflectiveOperationException {
        List<String> lines = Files.readAllLines(README);
        List<Piece> pieces = piecesOf(lines);
        Path room = Files.createTempDirectory("readme");
        try {
            tryPieces(pieces, room);
        } finally {
            clear(room);
        }
        gatherShown(pieces);
        checkAllIsShown();
        checkTestsAreNamed(lines);
        System.out.println(wrong == 0 ? told + " answers are as " + README + " says" : wrong + " are not as it says");
        if (wrong != 0) {
            System.exit(1);
        }
    }
}
