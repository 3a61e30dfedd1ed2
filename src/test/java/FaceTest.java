import java.io.IOException;
import java.lang.reflect.Constructor;
import java.lang.reflect.Field;
import java.lang.reflect.Method;
import java.lang.reflect.Modifier;
import java.nio.charset.StandardCharsets;
import java.nio.file.Files;
import java.nio.file.Path;
import java.util.Set;
import java.util.TreeSet;

/** The class has the face of the document and no more, and its source keeps to LANGUAGE.md where a look can tell. */
public final class FaceTest {
    private static final Checks CHECKS = new Checks();
    private static final String[] FACE = {
        "back()", "changed(I)", "count(I)", "day(III)", "erase(I)", "fault()", "fit(I)", "fold(II)", "go(II)",
        "hint(II)", "insert(II)", "keep()", "lay()", "make(II)", "place(II)", "row(II)", "saves(I)", "screen(II)",
        "set(II)", "sign(I)", "stands(II)", "tabs(I)", "tight(I)", "toggle(I)", "undo()", "unfold(I)", "unset(I)",
        "wide(III)", "wipe()", "write(I)"};
    private static final String[] FORBIDDEN = {
        "throw", "throws", "try", "catch", "finally", "synchronized", "assert", "native", "import", "package",
        "volatile", "var", "System.out", "Object", "Exception", "Error", "Thread", "equals", "hashCode", "toString"};

    public static void main(String[] args) throws IOException {
        members();
        constants();
        names();
        nested();
        source();
        CHECKS.end();
    }

    private static void due(String call, boolean got) {
        CHECKS.due(call, got ? 1 : 0, 1);
    }

    private static String told(Method m) {
        StringBuilder s = new StringBuilder(m.getName()).append('(');
        for (Class<?> c : m.getParameterTypes()) {
            s.append(c == int.class ? "I" : c.getName());
        }
        return s.append(')').toString();
    }

    private static void members() {
        Set<String> open = new TreeSet<>();
        for (Method m : DisplayMap.class.getDeclaredMethods()) {
            if (!Modifier.isPrivate(m.getModifiers())) {
                due(m + " is public, an int, not static",
                    Modifier.isPublic(m.getModifiers()) && m.getReturnType() == int.class
                        && !Modifier.isStatic(m.getModifiers()));
                open.add(told(m));
            }
        }
        CHECKS.dueAll("methods", String.join(" ", open), String.join(" ", new TreeSet<>(Set.of(FACE))));
        Constructor<?>[] all = DisplayMap.class.getDeclaredConstructors();
        CHECKS.due("constructors", all.length, 1);
        due("the constructor", all[0].getParameterCount() == 0 && Modifier.isPublic(all[0].getModifiers()));
        int modifiers = DisplayMap.class.getModifiers();
        due("public final", Modifier.isPublic(modifiers) && Modifier.isFinal(modifiers));
    }

    private static void constants() {
        CHECKS.due("BAD", DisplayMap.BAD, -1);
        CHECKS.due("NO", DisplayMap.NO, -2);
        CHECKS.due("FULL", DisplayMap.FULL, -3);
        CHECKS.due("NONE", DisplayMap.NONE, -4);
        Set<String> told = Set.of("BAD", "NO", "FULL", "NONE");
        for (Field f : DisplayMap.class.getDeclaredFields()) {
            due("field " + f.getName(), told.contains(f.getName()) || Modifier.isPrivate(f.getModifiers()));
            due("static is final: " + f.getName(),
                !Modifier.isStatic(f.getModifiers()) || Modifier.isFinal(f.getModifiers()));
        }
    }

    private static void names() {
        Set<String> open = new TreeSet<>();
        for (String call : FACE) {
            open.add(call.substring(0, call.indexOf('(')));
        }
        Class<?>[] inside = DisplayMap.class.getDeclaredClasses();
        for (int i = -1; i < inside.length; i++) {
            Class<?> c = i < 0 ? DisplayMap.class : inside[i];
            for (Method m : c.getDeclaredMethods()) {
                due(m + " does not bear a public name",
                    c == DisplayMap.class && Modifier.isPublic(m.getModifiers()) || !open.contains(m.getName()));
                due(m + " has at most seven parameters", m.getParameterCount() <= 7);
            }
        }
    }

    private static void nested() {
        Class<?>[] inside = DisplayMap.class.getDeclaredClasses();
        due("at most twelve classes", inside.length < 12);
        for (Class<?> c : inside) {
            due(c + " is static", Modifier.isStatic(c.getModifiers()));
            due(c + " is not public", !Modifier.isPublic(c.getModifiers()) && !Modifier.isProtected(c.getModifiers()));
            due(c + " has at most twenty fields", c.getDeclaredFields().length <= 20);
        }
    }

    private static void source() throws IOException {
        String text = Files.readString(Path.of("src/main/java/DisplayMap.java"), StandardCharsets.UTF_8);
        due("signs 1 to 127 alone", text.chars().allMatch(c -> c > 0 && c < 128));
        String code = text.replaceAll("(?s)/\\*.*?\\*/", " ").replaceAll("//[^\n]*", " ").replaceAll("\"[^\"]*\"", "S");
        for (String word : FORBIDDEN) {
            due("no " + word, !code.matches("(?s).*\\b" + word.replace(".", "\\.") + "\\b.*"));
        }
        due("no lambda", !code.contains("->"));
        due("no method reference", !code.contains("::"));
        due("no Exact", !code.contains("Exact"));
        int begun = 0;
        String[] lines = text.split("\n");
        for (int i = 0; i < lines.length; i++) {
            if (lines[i].matches("( {4}| {8})(public|private)\\b.*\\) \\{")) {
                begun = i;
            } else if (lines[i].matches("( {4}| {8})\\}")) {
                due("short: " + lines[begun].trim(), i - begun <= 60 || lines[begun].contains("class "));
            }
        }
    }
}
