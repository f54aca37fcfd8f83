import java.lang.reflect.Constructor;
import java.lang.reflect.Field;
import java.lang.reflect.Method;
import java.lang.reflect.Modifier;
import java.nio.file.Files;
import java.nio.file.Path;
import java.util.Arrays;
import java.util.HashMap;
import java.util.Map;
import java.util.Set;
import java.util.TreeSet;
import java.util.regex.Matcher;
import java.util.regex.Pattern;

/** The public face of the document, and the rules of LANGUAGE.md that can be seen in the source. */
public final class LanguageTest {
    private static final String[] FACE = {
        "int puts(int,int)", "int takes(int)", "int drops(int,int)", "int mode(int)", "int spaces()",
        "int value(int)", "int cell(int)", "int at(int)", "int rank(int)", "int key(int)",
        "int scan(int,int,int)", "int index(int)", "int window(int,int,int)", "int count(int)", "int log(int,int)",
        "int type(int)", "int clear()", "int does()", "int back()", "int told(int)", "long digest()"};

    private static final String[] RULED_OUT = {
        "throw", "throws", "try", "catch", "synchronized", "assert", "import", "package", "->", "::", "System.out",
        "Object", "hashCode", "toString", "var", "native", "volatile", "transient", "protected"};

    private static final int MOST_LINES = 60;
    private static final int MOST_FIELDS = 20;
    private static final int MOST_CLASSES = 12;
    private static final int MOST_PARAMETERS = 7;
    private static final int MOST_DEPTH = 8;
    private static final Set<String> NO_CALLS = Set.of("if", "for", "while", "switch", "return", "super", "this");

    private static void face() {
        int modifiers = GapRow.class.getModifiers();
        Due.holds("public final class", Modifier.isPublic(modifiers) && Modifier.isFinal(modifiers));
        Set<String> want = new TreeSet<>(Arrays.asList(FACE));
        Set<String> got = new TreeSet<>();
        Set<String> names = new TreeSet<>();
        for (Method m : GapRow.class.getDeclaredMethods()) {
            if (!Modifier.isPrivate(m.getModifiers())) {
                StringBuilder types = new StringBuilder();
                for (Class<?> t : m.getParameterTypes()) {
                    types.append(types.length() == 0 ? "" : ",").append(t.getName());
                }
                got.add(m.getReturnType().getName() + " " + m.getName() + "(" + types + ")");
                names.add(m.getName());
                Due.holds(m.getName() + " is public, not static", Modifier.isPublic(m.getModifiers())
                    && !Modifier.isStatic(m.getModifiers()));
            }
        }
        Due.holds("methods " + got, got.equals(want));
        privateNames(GapRow.class, names);
        for (Constructor<?> c : GapRow.class.getDeclaredConstructors()) {
            Due.holds("one public constructor", Modifier.isPublic(c.getModifiers()) && c.getParameterCount() == 0);
        }
        Due.is("constructors", GapRow.class.getDeclaredConstructors().length, 1);
        constants();
    }

    private static void privateNames(Class<?> c, Set<String> names) {
        for (Method m : c.getDeclaredMethods()) {
            Due.holds("a private method bears a public name: " + m,
                Modifier.isPublic(m.getModifiers()) || !names.contains(m.getName()));
            Due.holds("parameters of " + m, m.getParameterCount() <= MOST_PARAMETERS);
        }
        for (Class<?> inner : c.getDeclaredClasses()) {
            privateNames(inner, names);
        }
    }

    private static void constants() {
        Set<String> open = new TreeSet<>();
        for (Field f : GapRow.class.getDeclaredFields()) {
            if (!Modifier.isPrivate(f.getModifiers())) {
                open.add(f.getName());
                Due.holds(f.getName() + " is a constant", Modifier.isPublic(f.getModifiers())
                    && Modifier.isStatic(f.getModifiers()) && Modifier.isFinal(f.getModifiers())
                    && f.getType() == int.class);
            }
        }
        Due.holds("constants " + open, open.equals(new TreeSet<>(Arrays.asList("NONE", "BAD", "NO", "FULL"))));
        Due.is("NONE", GapRow.NONE, -1);
        Due.is("BAD", GapRow.BAD, -2);
        Due.is("NO", GapRow.NO, -3);
        Due.is("FULL", GapRow.FULL, -4);
    }

    private static void fields(Class<?> c) {
        int own = 0;
        for (Field f : c.getDeclaredFields()) {
            if (Modifier.isStatic(f.getModifiers())) {
                Due.holds("static field is final: " + f, Modifier.isFinal(f.getModifiers()));
            } else {
                own++;
            }
        }
        Due.holds("fields of " + c.getName() + ": " + own, own <= MOST_FIELDS);
        for (Class<?> inner : c.getDeclaredClasses()) {
            Due.holds(inner.getName() + " is static", Modifier.isStatic(inner.getModifiers()));
            fields(inner);
        }
    }

    private static String bare(String source) {
        return source.replaceAll("(?s)/\\*.*?\\*/", " ").replaceAll("//[^\\n]*", " ");
    }

    private static void source() throws Exception {
        String source = Files.readString(Path.of("src/main/java/GapRow.java"));
        String bare = bare(source);
        for (String word : RULED_OUT) {
            String edge = Character.isLetter(word.charAt(0)) ? "\\b" : "";
            String pattern = edge + Pattern.quote(word) + edge;
            Due.holds("the source is free of " + word, !Pattern.compile(pattern).matcher(bare).find());
        }
        for (int i = 0; i < source.length(); i++) {
            Due.holds("sign " + (int) source.charAt(i) + " at " + i, source.charAt(i) < 128);
        }
        int classes = 0;
        Matcher heads = Pattern.compile("\\b(class|record|enum|interface)\\b").matcher(bare);
        while (heads.find()) {
            classes++;
        }
        Due.holds("classes: " + classes, classes <= MOST_CLASSES);
        methodLengths(source);
        callDepths(bodies(bare));
    }

    /** Each method and constructor by its name, with the lines of its body. */
    private static Map<String, String> bodies(String source) {
        Map<String, String> found = new HashMap<>();
        Pattern form = Pattern.compile("(?ms)^( {4}| {8})(?:public|private) [^=;{}]*?(\\w+)\\([^()]*\\) \\{$(.*?)^\\1\\}");
        Matcher m = form.matcher(source);
        while (m.find()) {
            Due.holds("one method alone is named " + m.group(2), found.put(m.group(2), m.group(3)) == null);
        }
        return found;
    }

    private static void methodLengths(String source) {
        bodies(source).forEach((name, body) ->
            Due.holds("lines of " + name, body.split("\n").length + 1 <= MOST_LINES));
    }

    private static void callDepths(Map<String, String> bodies) {
        Due.holds("the methods are found", bodies.keySet().containsAll(Set.of("GapRow", "puts", "does", "digest")));
        for (String name : bodies.keySet()) {
            int deep = depth(name, bodies, MOST_DEPTH + 1);
            Due.holds("calls from " + name + " go at most " + MOST_DEPTH + " deep", deep <= MOST_DEPTH);
        }
    }

    /** How many calls stand open at once, its own and the library's among them; no further than told. */
    private static int depth(String name, Map<String, String> bodies, int most) {
        int below = 0;
        Matcher calls = Pattern.compile("\\b(\\w+)\\(").matcher(bodies.getOrDefault(name, ""));
        while (most > 1 && calls.find()) {
            if (!NO_CALLS.contains(calls.group(1))) {
                below = Math.max(below, depth(calls.group(1), bodies, most - 1));
            }
        }
        return 1 + below;
    }

    public static void main(String[] args) throws Exception {
        face();
        fields(GapRow.class);
        source();
        Due.end();
    }
}
