import java.lang.reflect.Field;
import java.lang.reflect.Method;
import java.lang.reflect.Modifier;
import java.nio.file.Files;
import java.nio.file.Path;
import java.util.Set;
import java.util.TreeSet;
import java.util.regex.Matcher;
import java.util.regex.Pattern;

/** The rules of LANGUAGE.md that can be seen from the class and from its text; takes the path of the text. */
public final class LanguageTest extends Check {
    private static final String[] FACE = {
        "int type(int)", "int wipe()", "int undo()", "int fault()", "int width(int)", "int read(int)", "int part(int,int)",
        "int frontier(int,int,int)", "int tried(int)", "int best(int)", "int line(int,int)", "int way(int,int)",
        "int haste(int)", "int enough()", "int shrinks(int)", "int spare()", "int sheet(int,int,int)", "int lose(int)",
        "int put(int,int,int,int)", "int get(int,int,int)", "int copy(int,int,int,int,int)", "int write(int,int)",
        "int count(int)", "long digest()"};
    // Rules 2, 4, 6, 13, and what the project's page forbids.
    private static final String[] NEVER = {
        "throw", "throws", "try", "catch", "finally", "synchronized", "assert", "import", "package", "->", "::", "Exception",
        "System\\.(?!arraycopy)", "Thread", "Random", "\\w+Exact", "double", "float", "toString", "hashCode", "equals"};

    public static void main(String[] args) throws Exception {
        face();
        text(Files.readString(Path.of(args[0])));
        finish("LanguageTest");
    }

    private static void face() throws Exception {
        Class<?> c = PrettyShapes.class;
        holds("public and final", Modifier.isPublic(c.getModifiers()) && Modifier.isFinal(c.getModifiers()));
        holds("one constructor", c.getDeclaredConstructors().length == 1 && c.getConstructors().length == 1);
        Set<String> found = new TreeSet<>(), names = new TreeSet<>();
        for (Method m : c.getDeclaredMethods()) {
            if (Modifier.isPrivate(m.getModifiers())) continue;
            String call = m.toString().replaceFirst("^public ", "").replace("PrettyShapes.", "");
            found.add(call);
            names.add(m.getName());
        }
        holds("the face, and no more: " + found, found.equals(new TreeSet<>(Set.of(FACE))));
        for (Method m : c.getDeclaredMethods())
            holds("no private " + m.getName(), !Modifier.isPrivate(m.getModifiers()) || !names.contains(m.getName()));
        Set<String> constants = new TreeSet<>();
        for (Field f : c.getDeclaredFields()) {
            if (!Modifier.isPrivate(f.getModifiers())) constants.add(f.getName() + f.getInt(null));
            if (Modifier.isStatic(f.getModifiers())) holds("final: " + f, Modifier.isFinal(f.getModifiers()));
        }
        holds("the constants: " + constants, constants.equals(new TreeSet<>(Set.of("NONE-1", "BAD-2", "NOT-3", "FULL-4"))));
        holds("some twelve classes", c.getDeclaredClasses().length < 12);
        int fields = 0;
        for (Field f : c.getDeclaredFields()) if (!Modifier.isStatic(f.getModifiers())) fields++;
        holds("some twenty fields: " + fields, fields <= 20);
        for (Class<?> inner : c.getDeclaredClasses()) {
            holds("static: " + inner, Modifier.isStatic(inner.getModifiers()) && !Modifier.isPublic(inner.getModifiers()));
            holds("some twenty fields: " + inner, inner.getDeclaredFields().length <= 20);
            for (Method m : inner.getDeclaredMethods()) {
                holds("at most seven parameters: " + m, m.getParameterCount() <= 7);
                holds("no name of the face: " + m, !names.contains(m.getName()));
            }
        }
    }

    private static void text(String source) {
        String code = source.replaceAll("(?s)/\\*.*?\\*/", "").replaceAll("//[^\n]*", "");
        for (String never : NEVER) {
            boolean isWord = Character.isLetter(never.charAt(0)) || never.startsWith("\\w");
            Matcher m = Pattern.compile(isWord ? "\\b" + never + (never.endsWith(")") ? "" : "\\b") : never).matcher(code);
            holds("no " + never, !m.find());
        }
        // Rule 4: of the library only what stands there; names of more than one sign with small ones are classes.
        Matcher used = Pattern.compile("\\b[A-Z][A-Z0-9]*[a-z]\\w*").matcher(code);
        Set<String> own = new TreeSet<>(Set.of("PrettyShapes", "Math", "System"));
        for (Class<?> inner : PrettyShapes.class.getDeclaredClasses()) own.add(inner.getSimpleName());
        while (used.find()) holds("the class " + used.group(), own.contains(used.group()));
        int length = 0;
        for (String line : code.split("\n")) {
            length = line.matches(" {4}(?: {4})?(?:public|private|void|int|boolean|static|[A-Z]\\w*\\().*\\{") ? 0 : length + 1;
            if (line.matches(" {4}(?: {4})?\\}")) holds("short methods", length <= 60);
        }
    }
}
