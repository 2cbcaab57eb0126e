import java.io.IOException;
import java.lang.reflect.Constructor;
import java.lang.reflect.Field;
import java.lang.reflect.Method;
import java.lang.reflect.Modifier;
import java.nio.file.Files;
import java.nio.file.Path;
import java.util.HashSet;
import java.util.List;
import java.util.Map;
import java.util.Set;
import java.util.TreeMap;
import java.util.TreeSet;
import java.util.regex.Matcher;
import java.util.regex.Pattern;

/** The face of the document, and those rules of LANGUAGE.md that can be seen from outside. */
public final class LanguageTest {
    private static final Path SOURCE = Path.of("src", "main", "java", "WaxCloth.java");
    private static final List<String> FACE = List.of("int feed(int)", "int cloth()", "int square(int,int)",
        "int as(int,int)", "int dye(int,int)", "int stencil(int)", "int takes(int,int,int)", "int does(int)", "int undo()",
        "int wish(int,int)", "int image(int)", "int restore(int)", "int plan(int,int)", "int rows(int,int,int,int,int,int)",
        "int shades(int,int)", "int cracks(int,int,int,int)", "int decades(int,int,int)", "int sheet(int,int,int)",
        "int drop(int)", "long item(int,int,int,long)", "int copy(int,int,int,int,int)", "int log(int,int,int)",
        "int ahead(int,int,int,int,int,int)", "int round(int,int,int,int,int)", "int kinds(int,int,int,int,int)",
        "int wishes(int,int,int)", "int count(int)");
    private static final Map<String, Integer> CONSTANTS = Map.of("BAD", -1, "NOT", -2, "FULL", -3, "NONE", -4,
        "NULL", -11, "CAST", -12, "INDEX", -13, "SIZE", -14);

    /** What the class uses of what rule 4 leaves. */
    private static final Set<String> LIBRARY = Set.of("System.arraycopy", "Math.max", "Math.min", "Integer.bitCount");

    public static void main(String[] args) throws IOException, IllegalAccessException {
        face();
        classes();
        words(code());
        library(code());
        lengths(code());
        depths(code());
        newOnlyWhenMade(code());
        Due.end();
    }

    private static void face() throws IllegalAccessException {
        Set<String> open = new TreeSet<>();
        Set<String> names = new HashSet<>();
        for (Method m : WaxCloth.class.getDeclaredMethods()) {
            if (Modifier.isPublic(m.getModifiers())) {
                String signature = m.toString().replaceAll("public |final |WaxCloth\\.", "");
                open.add(signature);
                names.add(m.getName());
                holds("in the face: " + signature, FACE.contains(signature));
            } else {
                holds("private: " + m, Modifier.isPrivate(m.getModifiers()));
            }
        }
        Due.due("methods of the face", open.size(), FACE.size());
        for (Method m : WaxCloth.class.getDeclaredMethods()) {
            holds("a name of its own: " + m, Modifier.isPublic(m.getModifiers()) || !names.contains(m.getName()));
        }
        for (Class<?> inside : WaxCloth.class.getDeclaredClasses()) {
            for (Method m : inside.getDeclaredMethods()) {
                holds("a name of its own: " + m, !names.contains(m.getName()));
            }
        }
        int constants = 0;
        for (Field f : WaxCloth.class.getDeclaredFields()) {
            boolean told = CONSTANTS.containsKey(f.getName());
            if (told) {
                constants++;
                Due.due("constant " + f, f.getInt(null), CONSTANTS.get(f.getName()));
            }
            holds("open or not as told: " + f, told ? Modifier.isPublic(f.getModifiers()) : Modifier.isPrivate(f.getModifiers()));
        }
        Due.due("constants of the face", constants, CONSTANTS.size());
        Constructor<?>[] made = WaxCloth.class.getDeclaredConstructors();
        holds("one constructor", made.length == 1 && made[0].getParameterCount() == 0 && Modifier.isPublic(made[0].getModifiers()));
        holds("public and final", Modifier.isPublic(WaxCloth.class.getModifiers()) && Modifier.isFinal(WaxCloth.class.getModifiers()));
    }

    private static void classes() {
        Class<?>[] inside = WaxCloth.class.getDeclaredClasses();
        holds("twelve classes at most", inside.length + 1 <= 12);
        for (Class<?> c : inside) {
            holds("static: " + c, Modifier.isStatic(c.getModifiers()));
            holds("not public: " + c, !Modifier.isPublic(c.getModifiers()) && !Modifier.isProtected(c.getModifiers()));
            int fields = 0;
            for (Field f : c.getDeclaredFields()) {
                boolean fixed = Modifier.isStatic(f.getModifiers());
                fields += fixed ? 0 : 1;
                holds("static fields are final: " + f, !fixed || Modifier.isFinal(f.getModifiers()));
            }
            holds("twenty fields at most: " + c, fields <= 20);
            for (Method m : c.getDeclaredMethods()) {
                holds("seven parameters at most: " + m, m.getParameterCount() <= 7);
            }
        }
    }

    /** The file without its comments. */
    private static String code() throws IOException {
        return Files.readString(SOURCE).replaceAll("(?s)/\\*.*?\\*/", "").replaceAll("//[^\n]*", "");
    }

    private static void words(String code) {
        String[] ruledOut = {"throw", "throws", "try", "catch", "synchronized", "assert", "package", "import", "static \\{", "->", "::",
            "\\w+Exact", "hashCode", "System\\.(?!arraycopy)", "Thread", "Random"};
        for (String word : ruledOut) {
            String pattern = Character.isLetter(word.charAt(0)) && word.matches("\\w+") ? "\\b" + word + "\\b" : word;
            holds("no " + word, !Pattern.compile(pattern).matcher(code).find());
        }
        for (char c : code.toCharArray()) {
            if (c > 127) {
                holds("a sign beyond 127: " + c, false);
            }
        }
    }

    private static void library(String code) {
        Set<String> own = new HashSet<>();
        for (Class<?> inside : WaxCloth.class.getDeclaredClasses()) {
            own.add(inside.getSimpleName());
        }
        for (Matcher call = Pattern.compile("\\b([A-Z]\\w*)\\.(\\w+)\\(").matcher(code); call.find();) {
            holds("of the library: " + call.group(), own.contains(call.group(1)) || LIBRARY.contains(call.group(1) + "." + call.group(2)));
        }
    }

    /** Each method's head and, as its value, its body. */
    private static Map<String, String> methods(String code) {
        Map<String, String> all = new TreeMap<>();
        Matcher method = Pattern.compile("(?m)^( {4}| {8})\\w[^;={]*\\([^;{]*\\) \\{$").matcher(code);
        while (method.find()) {
            int end = code.indexOf("\n" + method.group(1) + "}", method.end());
            all.merge(method.group().trim(), code.substring(method.end(), end), String::concat);
        }
        return all;
    }

    private static void lengths(String code) {
        Map<String, String> methods = methods(code);
        for (String head : methods.keySet()) {
            holds("sixty lines at most: " + head, methods.get(head).lines().count() <= 60);
        }
        holds("methods were found", methods.size() > FACE.size());
    }

    /** Methods of the same name count as one, which makes no way shorter. */
    private static void depths(String code) {
        Map<String, String> bodies = new TreeMap<>();
        methods(code).forEach((head, body) -> bodies.merge(head.replaceAll("\\(.*", "").replaceAll(".* ", ""), body, String::concat));
        for (String name : bodies.keySet()) {
            int depth = depth(bodies, name, new HashSet<>());
            holds("eight deep at most: " + name + " " + depth, depth <= 8);
        }
        holds("plan goes some way down", depth(bodies, "plan", new HashSet<>()) > 4);
    }

    private static int depth(Map<String, String> bodies, String name, Set<String> open) {
        int deepest = 0;
        open.add(name);
        for (Matcher call = Pattern.compile("\\b(\\w+)\\(").matcher(bodies.get(name)); call.find();) {
            if (bodies.containsKey(call.group(1)) && !open.contains(call.group(1))) {
                deepest = Math.max(deepest, depth(bodies, call.group(1), open));
            }
        }
        open.remove(name);
        return 1 + deepest;
    }

    /** Rows stand in fields or come from the constructor, so that no call makes anything. */
    private static void newOnlyWhenMade(String code) {
        int from = code.indexOf("public WaxCloth() {");
        String others = code.substring(0, from) + code.substring(code.indexOf("\n    }", from));
        for (String line : others.split("\n")) {
            holds("made with the object: " + line.trim(), !line.contains("new ") || line.matches(" {8}(private )?final .* = new .*;"));
        }
    }

    private static void holds(String what, boolean is) {
        Due.due(what, is ? 1 : 0, 1);
    }
}
