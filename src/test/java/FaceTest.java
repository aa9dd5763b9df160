import java.lang.reflect.Field;
import java.lang.reflect.Method;
import java.lang.reflect.Modifier;
import java.nio.file.Files;
import java.nio.file.Path;
import java.util.ArrayList;
import java.util.List;
import java.util.TreeSet;
import java.util.regex.Matcher;
import java.util.regex.Pattern;

/** The face of the class, and what of ../shared/LANGUAGE.md can be seen in its file. */
public final class FaceTest {
    private static final String FACE = "feed(int,int,int,int,int) back(int) read() place() why()"
        + " layout(int,boolean,int,int) argument(int,int,int) byteAt(int) poke(int,int) bin(int,int,int) length(int)"
        + " cell(int,int,int) write(int,int,int,long) box(int,int,int) put(int,int,int,long)"
        + " copy(int,int,int,int,int,int) paste(int,int,int,int,int) unlike(int,int) load(int,int,int)"
        + " store(int,int,int) turn(int,int,int,boolean) list(int,int,int) move(int,int,int,boolean) register(int)"
        + " sets(int,long) frame() returns() hold(int) restore(int) count(int)";
    private static final String[] RULED_OUT = {"->", "::", "\\bcatch\\b", "\\bthrow\\b", "\\bfinally\\b", "\\bsynchronized\\b",
        "\\bassert\\b", "Exact\\(", "\\bSystem\\.(?!arraycopy)", "\\bMath\\.(?!min|max|abs)", "\"\\s*\\+", "\\+\\s*\"", "\\bdouble\\b",
        "\\bfloat\\b", "\\brecord\\b", "\\bvar\\b", "\\benum\\b"};

    public static void main(String[] args) throws Exception {
        face();
        classes();
        source();
        Check.end("FaceTest");
    }

    private static String written(Method m) {
        List<String> types = new ArrayList<>();
        for (Class<?> type : m.getParameterTypes()) {
            types.add(type.getName());
        }
        return m.getName() + "(" + String.join(",", types) + ")";
    }

    private static void face() {
        TreeSet<String> open = new TreeSet<>();
        TreeSet<String> openNames = new TreeSet<>();
        for (Method m : GuestCalls.class.getDeclaredMethods()) {
            if (!Modifier.isPrivate(m.getModifiers())) {
                open.add(written(m));
                openNames.add(m.getName());
                Check.due(m.getName() + " is public alone", m.getModifiers(), Modifier.PUBLIC);
            }
        }
        Check.due("the methods are the face's", open.equals(new TreeSet<>(List.of(FACE.split(" ")))), true);
        for (Method m : GuestCalls.class.getDeclaredMethods()) {
            boolean isPrivate = Modifier.isPrivate(m.getModifiers());
            Check.due(m.getName() + " is a name of the face", openNames.contains(m.getName()), !isPrivate);
        }
        for (Field f : GuestCalls.class.getDeclaredFields()) {
            boolean isOpen = !Modifier.isPrivate(f.getModifiers());
            Check.due(f.getName() + " is open", isOpen, f.getName().equals("NONE"));
        }
        Check.due("NONE", GuestCalls.NONE, -1);
        Check.due("final", Modifier.isFinal(GuestCalls.class.getModifiers()), true);
        Check.due("constructors", GuestCalls.class.getDeclaredConstructors().length, 1);
    }

    private static void classes() {
        Class<?>[] inside = GuestCalls.class.getDeclaredClasses();
        Check.due("not too many classes", inside.length <= 11, true);
        for (Class<?> c : inside) {
            Check.due(c.getName() + " is static", Modifier.isStatic(c.getModifiers()), true);
            members(c);
        }
        members(GuestCalls.class);
    }

    private static void members(Class<?> c) {
        int fields = 0;
        for (Field f : c.getDeclaredFields()) {
            boolean isStatic = Modifier.isStatic(f.getModifiers());
            fields += isStatic ? 0 : 1;
            Check.due(f.getName() + " is static and not final", isStatic && !Modifier.isFinal(f.getModifiers()), false);
        }
        Check.due("not too many fields in " + c, fields <= 20, true);
        for (Method m : c.getDeclaredMethods()) {
            Check.due("not too many parameters of " + m, m.getParameterCount() <= 7, true);
        }
    }

    private static void source() throws Exception {
        String text = Files.readString(Path.of("src/main/java/GuestCalls.java"));
        for (int i = 0; i < text.length(); i++) {
            if (text.charAt(i) > 127) {
                Check.due("sign at " + i, text.charAt(i), 127);
            }
        }
        String bare = text.replaceAll("(?s)/\\*.*?\\*/", "").replaceAll("//[^\\n]*", "");
        for (String pattern : RULED_OUT) {
            String unquoted = pattern.contains("\"") ? bare : bare.replaceAll("\"[^\"\\n]*\"", "\"\"");
            Check.due("there is " + pattern, Pattern.compile(pattern).matcher(unquoted).find(), false);
        }
        Matcher imports = Pattern.compile("import ([^;]+);").matcher(bare);
        while (imports.find()) {
            Check.due("import of " + imports.group(1), imports.group(1).equals("java.util.Arrays"), true);
        }
        methodLengths(text);
    }

    private static void methodLengths(String text) {
        int start = 0;
        String[] lines = text.split("\n");
        for (int i = 0; i < lines.length; i++) {
            if (lines[i].matches("( {4}| {8})[a-z].*\\) \\{")) {
                start = i;
            }
            if (lines[i].matches("( {4}| {8})\\}")) {
                Check.due("a short method at line " + (start + 1), i - start <= 60 || !lines[start].contains("("), true);
            }
        }
    }
}
