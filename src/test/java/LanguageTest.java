import java.io.IOException;
import java.lang.reflect.Constructor;
import java.lang.reflect.Field;
import java.lang.reflect.Method;
import java.lang.reflect.Modifier;
import java.nio.file.Files;
import java.nio.file.Path;
import java.util.Set;
import java.util.TreeSet;
import java.util.regex.Matcher;
import java.util.regex.Pattern;

/** The document's face, and those rules of LANGUAGE.md that a look at the class can tell. */
public final class LanguageTest {
    private static final Check CHECK = new Check();
    private static final Set<String> FACE = Set.of(
            "int open(int,int,int,int)", "int feed(int,int,int,int,int)", "int end(int)",
            "int assemble(int)", "int fault(int)", "int poke(int,int,int)", "int peek(int,int)",
            "int store(int,int,int,int)", "int block(int,int,int)", "int switches(int,int)",
            "int start(int,int)", "int key(int,int)", "int run(int)", "int about(int,int)",
            "int letter(int,int)", "int waiting(int,int)", "int queued(int,int)", "int house(int)",
            "int row(int)", "long digest()");
    /** Of static fields: int, long, boolean, char, String, and arrays of int, long, char and byte. */
    private static final Set<String> CONSTANTS = Set.of(
            "int", "long", "boolean", "char", "java.lang.String", "[I", "[J", "[C", "[B");
    private static final Pattern METHOD = Pattern.compile(
            "( {4}| {8})(?!if|for|while|switch|else)(?:[a-z]+ )*[\\w\\[\\]]+ \\w+\\([^;]*(?:\\) \\{)?");
    private static final String[] FORBIDDEN = {
        "\\bthrow\\b", "\\bthrows\\b", "\\btry\\b", "\\bcatch\\b", "\\bsynchronized\\b", "\\bassert\\b",
        "->", "::", "\\bstatic\\s*\\{", "\\bpackage\\b", "\\bThread\\b", "System\\.(?!arraycopy\\b)",
        "Exact\\b", "\\bprotected\\b", "\\bnew\\s+\\w+\\s*\\([^)]*\\)\\s*\\{", "\"\\s*\\+|\\+\\s*\""
    };

    public static void main(String[] args) throws IOException {
        face();
        nestedClasses();
        members(LineMonitor.class);
        for (Class<?> c : LineMonitor.class.getDeclaredClasses()) {
            members(c);
        }
        String text = Files.readString(Path.of("src/main/java/LineMonitor.java"));
        source(text);
        lengthsOfMethods(text);
        CHECK.finish();
    }

    private static void face() {
        Class<?> face = LineMonitor.class;
        CHECK.due("public and final", face.getModifiers(), Modifier.PUBLIC | Modifier.FINAL);
        Set<String> visible = new TreeSet<>();
        Set<String> names = new TreeSet<>();
        for (Method m : face.getDeclaredMethods()) {
            if (!Modifier.isPrivate(m.getModifiers())) {
                CHECK.due("modifiers of " + m.getName(), m.getModifiers(), Modifier.PUBLIC);
                visible.add(signature(m));
                names.add(m.getName());
            }
        }
        CHECK.due("the face", visible.toString(), new TreeSet<>(FACE).toString());
        for (Method m : face.getDeclaredMethods()) {
            boolean isHidden = Modifier.isPrivate(m.getModifiers());
            CHECK.due("private " + m.getName() + " bears no public name",
                    isHidden && names.contains(m.getName()) ? 1 : 0, 0);
        }
        for (Field f : face.getDeclaredFields()) {
            CHECK.due(f.getName() + " is private", f.getModifiers() & Modifier.PRIVATE, Modifier.PRIVATE);
        }
        Constructor<?>[] made = face.getDeclaredConstructors();
        CHECK.due("constructors", made.length, 1);
        CHECK.due("its parameters", made[0].getParameterCount(), 0);
        CHECK.due("its modifiers", made[0].getModifiers(), Modifier.PUBLIC);
    }

    private static String signature(Method m) {
        StringBuilder s = new StringBuilder(m.getReturnType().getName()).append(' ').append(m.getName());
        String between = "(";
        for (Class<?> type : m.getParameterTypes()) {
            s.append(between).append(type.getName());
            between = ",";
        }
        return s.append(m.getParameterCount() == 0 ? "()" : ")").toString();
    }

    private static void nestedClasses() {
        Class<?>[] nested = LineMonitor.class.getDeclaredClasses();
        CHECK.due("at most twelve classes", nested.length <= 11 ? 1 : 0, 1);
        for (Class<?> c : nested) {
            int seen = c.getModifiers() & (Modifier.STATIC | Modifier.PUBLIC | Modifier.PROTECTED);
            CHECK.due(c.getName() + " is static and hidden", seen, Modifier.STATIC);
            int fields = 0;
            for (Field f : c.getDeclaredFields()) {
                boolean isStatic = Modifier.isStatic(f.getModifiers());
                fields += isStatic ? 0 : 1;
                CHECK.due(c.getName() + "." + f.getName() + " is final if static",
                        isStatic && !Modifier.isFinal(f.getModifiers()) ? 1 : 0, 0);
            }
            CHECK.due(c.getName() + " has some twenty fields", fields <= 20 ? 1 : 0, 1);
        }
    }

    /** Rules 3, 5 and 11: static fields, their types, and how many parameters there are. */
    private static void members(Class<?> c) {
        for (Field f : c.getDeclaredFields()) {
            String name = c.getName() + "." + f.getName();
            Class<?> type = f.getType();
            if (Modifier.isStatic(f.getModifiers())) {
                CHECK.due(name + " is final", Modifier.isFinal(f.getModifiers()) ? 1 : 0, 1);
                CHECK.due(name + " is a constant", CONSTANTS.contains(type.getName()) ? 1 : 0, 1);
            }
            Class<?> part = type.isArray() ? type.getComponentType() : type;
            boolean isOwn = part.getName().startsWith("LineMonitor");
            CHECK.due(name + " has one dimension", part.isArray() ? 1 : 0, 0);
            CHECK.due(name + " is of a listed type", part.isPrimitive() || isOwn || part == String.class ? 1 : 0, 1);
        }
        for (Method m : c.getDeclaredMethods()) {
            CHECK.due(c.getName() + "." + m.getName() + " has seven parameters at most",
                    m.getParameterCount() <= 7 ? 1 : 0, 1);
        }
    }

    /** Rule 11: a method's lines from its head to the brace below it. */
    private static void lengthsOfMethods(String text) {
        String[] lines = text.split("\n");
        int methods = 0;
        for (int i = 0; i < lines.length; i++) {
            Matcher head = METHOD.matcher(lines[i]);
            if (head.matches()) {
                int last = i;
                while (last < lines.length && !lines[last].equals(head.group(1) + "}")) {
                    last++;
                }
                methods++;
                CHECK.due(lines[i].strip() + " has sixty lines at most", last - i + 1 <= 60 ? 1 : 0, 1);
            }
        }
        CHECK.due("the look finds the methods", methods >= FACE.size() ? 1 : 0, 1);
    }

    private static void source(String text) {
        String code = text.replaceAll("(?s)/\\*.*?\\*/", " ").replaceAll("//[^\n]*", " ");
        for (String word : FORBIDDEN) {
            Matcher m = Pattern.compile(word).matcher(code);
            CHECK.due("the source is free of " + word, m.find() ? 1 : 0, 0);
        }
        Matcher imports = Pattern.compile("import ([^;]*);").matcher(code);
        while (imports.find()) {
            boolean isListed = Set.of("java.util.Arrays", "java.util.ArrayList", "java.util.List",
                    "java.util.Iterator").contains(imports.group(1));
            CHECK.due("import " + imports.group(1), isListed ? 1 : 0, 1);
        }
    }
}
