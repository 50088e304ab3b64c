import java.io.IOException;
import java.lang.reflect.Constructor;
import java.lang.reflect.Field;
import java.lang.reflect.Method;
import java.lang.reflect.Modifier;
import java.nio.file.Files;
import java.nio.file.Path;
import java.util.Arrays;
import java.util.List;
import java.util.Set;
import java.util.TreeSet;
import java.util.regex.Matcher;
import java.util.regex.Pattern;

/** The document's face, and the rules of LANGUAGE.md that can be looked at from outside. */
public final class FaceTest {
    private static final List<String> FACE = List.of("come(int, int, int)", "go(int)",
        "turn(int, int, int, int)", "size(int, int)", "apart(int, int, boolean)", "lock(int, int)",
        "free(int)", "solve(int, int)", "take(int, int)", "step(int, int)", "mark(int, int)",
        "back(int, int)", "room(int, boolean, int)", "score(int, boolean, boolean)",
        "scoreBy(int, boolean, boolean, int)", "same(int, int)", "told(int, int)", "fact(int)",
        "change(int)");
    private static final Path SOURCE = Path.of("src/main/java/LiveChanges.java");

    public static void main(String[] args) throws IOException {
        Check.due("public", Modifier.isPublic(LiveChanges.class.getModifiers()));
        Check.due("final", Modifier.isFinal(LiveChanges.class.getModifiers()));
        constructors();
        methods();
        fields();
        classesInside();
        words();
        library();
        lengths();
        Check.end("FaceTest");
    }

    private static void constructors() {
        Constructor<?>[] all = LiveChanges.class.getDeclaredConstructors();
        Check.due("constructors", all.length, 1);
        Check.due("public constructor", Modifier.isPublic(all[0].getModifiers()));
        Check.due("no parameters", all[0].getParameterCount(), 0);
    }

    private static void methods() {
        Set<String> open = new TreeSet<>();
        Set<String> openNames = new TreeSet<>();
        for (Method m : LiveChanges.class.getDeclaredMethods()) {
            if (!Modifier.isPrivate(m.getModifiers())) {
                String types = String.join(", ", Arrays.stream(m.getParameterTypes())
                    .map(Class::getName).toList());
                open.add(m.getName() + "(" + types + ")");
                openNames.add(m.getName());
                Check.due(m.getName() + " is public", Modifier.isPublic(m.getModifiers()));
                Check.due(m.getName() + " answers int", m.getReturnType() == int.class);
                Check.due(m.getName() + " is no static", !Modifier.isStatic(m.getModifiers()));
            }
            Check.due(m.getName() + " parameters", m.getParameterCount() <= 7);
        }
        Check.due("the face is " + open, open.equals(new TreeSet<>(FACE)));
        for (Method m : LiveChanges.class.getDeclaredMethods()) {
            boolean twice = Modifier.isPrivate(m.getModifiers()) && openNames.contains(m.getName());
            Check.due(m.getName() + " is no public name too", !twice);
        }
    }

    private static void fields() {
        Set<String> open = new TreeSet<>();
        for (Field f : LiveChanges.class.getDeclaredFields()) {
            if (!Modifier.isPrivate(f.getModifiers())) {
                open.add(f.getName());
                Check.due(f.getName() + " is an int", f.getType() == int.class);
            }
            if (Modifier.isStatic(f.getModifiers())) {
                Check.due(f.getName() + " is final", Modifier.isFinal(f.getModifiers()));
            }
        }
        Check.due("constants " + open, open.equals(Set.of("NONE", "BAD", "STATE", "FULL")));
        Check.due("NONE", LiveChanges.NONE, -1);
        Check.due("BAD", LiveChanges.BAD, -2);
        Check.due("STATE", LiveChanges.STATE, -3);
        Check.due("FULL", LiveChanges.FULL, -4);
    }

    private static void classesInside() {
        Class<?>[] inside = LiveChanges.class.getDeclaredClasses();
        Check.due("classes", inside.length <= 11);
        for (Class<?> c : inside) {
            Check.due(c + " is static", Modifier.isStatic(c.getModifiers()));
            Check.due(c + " is not public", !Modifier.isPublic(c.getModifiers()));
            long fields = Arrays.stream(c.getDeclaredFields())
                .filter(f -> !Modifier.isStatic(f.getModifiers())).count();
            Check.due(c + " fields", fields <= 20);
            for (Method m : c.getDeclaredMethods()) {
                Check.due(m + " parameters", m.getParameterCount() <= 7);
            }
        }
    }

    private static String code() throws IOException {
        return Files.readString(SOURCE).replaceAll("(?s)/\\*.*?\\*/", "")
            .replaceAll("//[^\n]*", "");
    }

    private static void words() throws IOException {
        String code = code();
        Pattern ruledOut = Pattern.compile("\\b(throw|throws|try|catch|finally|synchronized|assert|"
            + "package|native|volatile|transient|\\w+Exact|Random|Thread|currentTimeMillis|nanoTime|"
            + "HashMap|Object)\\b|->|::|\\[\\]\\s*\\[\\]\\s*\\[\\]");
        Matcher m = ruledOut.matcher(code);
        while (m.find()) {
            Check.due("ruled out: " + m.group(), false);
        }
        Matcher imports = Pattern.compile("import ([^;]+);").matcher(code);
        while (imports.find()) {
            boolean fine = Set.of("java.util.Arrays", "java.util.ArrayList", "java.util.List",
                "java.util.Iterator").contains(imports.group(1));
            Check.due("import " + imports.group(1), fine);
        }
    }

    /** Rule 4: of the library only what stands there; its functions alone, not its constants. */
    private static void library() throws IOException {
        Set<String> fine = Set.of("System.arraycopy", "Arrays.fill", "Math.min", "Math.max",
            "Math.abs", "Math.floorMod", "Integer.bitCount");
        Matcher m = Pattern.compile("(?<!\\.)\\b(System|Arrays|Math|Integer|Long|String|List)\\.\\w+")
            .matcher(code());
        while (m.find()) {
            Check.due("of the library: " + m.group(), fine.contains(m.group()));
        }
    }

    /** Rule 11: methods stay short. In this file a method ends with a brace as deep as its head. */
    private static void lengths() throws IOException {
        String[] lines = code().split("\n");
        for (int i = 0; i < lines.length; i++) {
            Matcher head = Pattern.compile("^( +)[\\w\\[\\] ]+\\(.*\\) \\{$").matcher(lines[i]);
            if (head.find() && !lines[i].matches(" +(if|for|while|switch) .*")) {
                int end = i;
                while (end < lines.length && !lines[end].equals(head.group(1) + "}")) {
                    end++;
                }
                Check.due(lines[i].trim() + " is short", end - i <= 60);
            }
        }
    }
}
