import java.lang.reflect.Field;
import java.lang.reflect.Method;
import java.lang.reflect.Modifier;
import java.nio.file.Files;
import java.nio.file.Path;
import java.util.Set;
import java.util.TreeSet;
import java.util.regex.Matcher;
import java.util.regex.Pattern;

/** The rules of LANGUAGE.md that can be seen from the class and from its text (the file is the argument). */
public final class LanguageTest {
    private static final Due DUE = new Due();

    private static final String FACE = "back(0) behind(2) child(1) clock(2) count(1) draughts(4) dull(0) fault(0) "
        + "forget(0) hear(2) keep(0) lay(0) noon(0) oil(1) oils(3) pairs(1) pass(1) right(2) ring(1) set(1) setter(1) "
        + "taught(1) teach(2) undo(0) wall(2) wipe(0) write(1) year(3)";

    private static final Set<String> LIBRARY = Set.of("Math.max", "Math.min", "Math.abs", "Integer.bitCount");

    public static void main(String[] args) throws Exception {
        String source = Files.readString(Path.of(args[0]));
        face();
        classes();
        words(source);
        methods(source);
        DUE.end("LanguageTest");
    }

    private static void no(String what) {
        DUE.is(what, 0, 1);
    }

    private static void face() {
        Set<String> open = new TreeSet<>();
        Set<String> hidden = new TreeSet<>();
        for (Method m : TaughtClocks.class.getDeclaredMethods()) {
            if (Modifier.isPublic(m.getModifiers())) {
                open.add(m.getName() + "(" + m.getParameterCount() + ")");
            } else {
                hidden.add(m.getName());
                if (!Modifier.isPrivate(m.getModifiers())) {
                    no("not private: " + m);
                }
            }
        }
        if (!String.join(" ", open).equals(FACE)) {
            no("the face: " + open);
        }
        for (Class<?> inner : TaughtClocks.class.getDeclaredClasses()) {
            for (Method m : inner.getDeclaredMethods()) {
                hidden.add(m.getName());
            }
        }
        for (String name : hidden) {
            if (FACE.matches("(.* )?" + Pattern.quote(name) + "\\(.*")) {
                no("bears the name of a public one: " + name);
            }
        }
        Set<String> constants = new TreeSet<>();
        for (Field f : TaughtClocks.class.getDeclaredFields()) {
            if (!Modifier.isPrivate(f.getModifiers())) {
                constants.add(Modifier.toString(f.getModifiers()) + " " + f.getName());
            }
        }
        if (!constants.toString().equals("[public static final BAD, public static final FULL, "
            + "public static final NO, public static final NONE]")) {
            no("constants: " + constants);
        }
        DUE.is("public constructors", 1, TaughtClocks.class.getConstructors().length);
    }

    private static void classes() {
        Class<?>[] inner = TaughtClocks.class.getDeclaredClasses();
        if (inner.length > 11) {
            no("classes: " + inner.length);
        }
        fields(TaughtClocks.class);
        for (Class<?> c : inner) {
            if (Modifier.isPublic(c.getModifiers()) || !Modifier.isStatic(c.getModifiers())) {
                no("a class inside: " + c);
            }
            fields(c);
        }
    }

    private static void fields(Class<?> c) {
        int many = 0;
        for (Field f : c.getDeclaredFields()) {
            boolean constant = Modifier.isStatic(f.getModifiers());
            many += constant ? 0 : 1;
            if (constant && (!Modifier.isFinal(f.getModifiers()) || f.getType().isArray())) {
                no("static: " + f);
            }
        }
        if (many > 20) {
            no("fields of " + c + ": " + many);
        }
    }

    private static void words(String source) {
        String code = source.replaceAll("(?s)/\\*.*?\\*/", " ").replaceAll("//[^\n]*", " ")
            .replaceAll("\"[^\"\n]*\"", "\"\"");
        Matcher forbidden = Pattern.compile("->|::|\\b(import|package|try|catch|finally|throw|throws|assert|synchronized|"
            + "native|volatile|System|Object|Thread|Random|protected|yield)\\b").matcher(code);
        while (forbidden.find()) {
            no("a word of the source: " + forbidden.group());
        }
        Matcher library = Pattern.compile("\\b(Math|Integer|Long|Arrays|String|Character)\\.(\\w+)").matcher(code);
        while (library.find()) {
            if (!LIBRARY.contains(library.group())) {
                no("of the library: " + library.group());
            }
        }
        for (int i = 0; i < source.length(); i++) {
            if (source.charAt(i) > 126) {
                no("a sign of the source at " + i);
            }
        }
    }

    /** A method begins with four or eight blanks and a name with a bracket, and ends with a brace as far in. */
    private static void methods(String source) {
        String[] lines = source.split("\n");
        Pattern head = Pattern.compile("( {4}| {8})(?:\\w[\\w\\[\\]]* )*\\w+\\(([^)]*)\\) \\{");
        int many = 0;
        for (int i = 0; i < lines.length; i++) {
            Matcher m = head.matcher(lines[i]);
            if (!m.matches() || lines[i].matches(" +(if|for|switch|while) .*")) {
                continue;
            }
            many++;
            int end = i;
            while (!lines[end].equals(m.group(1) + "}")) {
                end++;
            }
            if (end - i > 60 || m.group(2).split(",").length > 7) {
                no("a long method: " + lines[i]);
            }
        }
        if (many < 60) {
            no("methods were not seen: " + many);
        }
    }
}
