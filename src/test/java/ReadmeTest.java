import java.io.ByteArrayOutputStream;
import java.io.IOException;
import java.io.PrintStream;
import java.lang.reflect.Method;
import java.net.URL;
import java.net.URLClassLoader;
import java.nio.file.Files;
import java.nio.file.Path;
import java.util.ArrayList;
import java.util.List;
import java.util.Set;
import java.util.TreeSet;
import java.util.regex.Matcher;
import java.util.regex.Pattern;
import java.util.stream.Stream;
import javax.tools.ToolProvider;

/** README.md: its programs compile, and each call that it shows answers what stands behind it. */
public final class ReadmeTest {
    private static final Pattern SHOWN = Pattern.compile("([xy]\\.(\\w+)\\(.*\\));\\s+// (-?\\d+)\\b.*");
    private static final Pattern BLOCK = Pattern.compile("(?ms)^```(\\w+)\n(.*?)^```$");

    public static void main(String[] args) throws Exception {
        String page = Files.readString(Path.of("README.md"));
        StringBuilder pieces = new StringBuilder();
        String first = null;
        String printed = null;
        for (Matcher block = BLOCK.matcher(page); block.find();) {
            if (block.group(1).equals("text")) {
                printed = block.group(2);
            } else if (block.group(1).equals("java") && first == null) {
                first = block.group(2);
            } else if (block.group(1).equals("java")) {
                pieces.append(block.group(2));
            }
        }
        same("the first program prints", run("Mine", first), printed);
        pieces(pieces.toString());
        constants(page);
        allTests(page);
        Due.end();
    }

    /** Each call with an answer behind it is held against that; all other lines stay as they are. */
    private static void pieces(String code) throws Exception {
        StringBuilder program = new StringBuilder("public final class Pieces {\n    public static void main(String[] args) {\n");
        List<String> calls = new ArrayList<>();
        List<Long> due = new ArrayList<>();
        Set<String> names = new TreeSet<>();
        for (String line : code.split("\n")) {
            Matcher shown = SHOWN.matcher(line);
            if (shown.matches()) {
                calls.add(shown.group(1));
                names.add(shown.group(2));
                due.add(Long.parseLong(shown.group(3)));
                line = "System.out.println((long) " + shown.group(1) + ");";
            } else if (line.contains("x.feed(c)") || line.contains("y.feed('w')")) {
                names.add("feed");
            } else {
                Due.due("a call without an answer: " + line, line.matches("[xy]\\..*") ? 1 : 0, 0);
            }
            program.append(line).append('\n');
        }
        String[] got = run("Pieces", program.append("    }\n}\n").toString()).split("\n");
        Due.due("answers", got.length, calls.size());
        for (int i = 0; i < calls.size() && i < got.length; i++) {
            Due.due("README " + calls.get(i), Long.parseLong(got[i].trim()), due.get(i));
        }
        Due.due("calls that are shown: " + names, names.size(), 27);
        for (int answer : new int[] {-1, -2, -3, -4, -11, -12, -13, -14}) {
            Due.due("shown: " + answer, due.contains((long) answer) ? 1 : 0, 1);
        }
    }

    /** A program is compiled and run by itself: what it prints. */
    private static String run(String name, String code) throws Exception {
        Path folder = Files.createTempDirectory("readme");
        PrintStream before = System.out;
        ByteArrayOutputStream printed = new ByteArrayOutputStream();
        try {
            Path file = folder.resolve(name + ".java");
            Files.writeString(file, code);
            String classes = System.getProperty("java.class.path");
            int failed = ToolProvider.getSystemJavaCompiler().run(null, null, null, "-d", folder.toString(), "-cp", classes, file.toString());
            Due.due(name + " compiles", failed, 0);
            if (failed != 0) {
                return "";
            }
            try (URLClassLoader loader = new URLClassLoader(new URL[] {folder.toUri().toURL()})) {
                Method main = loader.loadClass(name).getMethod("main", String[].class);
                System.setOut(new PrintStream(printed, true));
                main.invoke(null, (Object) new String[0]);
            }
        } finally {
            System.setOut(before);
            remove(folder);
        }
        return printed.toString().replace("\r", "");
    }

    private static void remove(Path folder) throws IOException {
        try (Stream<Path> files = Files.list(folder)) {
            for (Path file : files.toList()) {
                Files.delete(file);
            }
        }
        Files.delete(folder);
    }

    /** The table of the answers below 0 has each constant with its number. */
    private static void constants(String page) throws IllegalAccessException {
        int rows = 0;
        for (Matcher row = Pattern.compile("(?m)^\\| `([A-Z]+)` \\| (-\\d+) \\|").matcher(page); row.find(); rows++) {
            int number = 0;
            try {
                number = WaxCloth.class.getField(row.group(1)).getInt(null);
            } catch (NoSuchFieldException e) {
                System.out.println("no such constant: " + row.group(1));
            }
            Due.due(row.group(1), number, Integer.parseInt(row.group(2)));
        }
        Due.due("constants that are shown", rows, 8);
    }

    /** The table of the tests has each of them. */
    private static void allTests(String page) throws IOException {
        try (Stream<Path> files = Files.list(Path.of("src", "test", "java"))) {
            for (Path file : files.toList()) {
                String name = file.getFileName().toString().replace(".java", "");
                Due.due("README names " + name, page.contains("`" + name + "`") ? 1 : 0, 1);
            }
        }
    }

    private static void same(String what, String got, String want) {
        Due.due(what + " '" + got + "', due is '" + want + "'", got.equals(want) ? 1 : 0, 1);
    }
}
