import java.io.IOException;
import java.lang.reflect.Constructor;
import java.lang.reflect.Field;
import java.lang.reflect.Method;
import java.lang.reflect.Modifier;
import java.nio.file.Files;
import java.nio.file.Path;
import java.util.ArrayList;
import java.util.Arrays;
import java.util.Collections;
import java.util.List;
import java.util.Set;
import java.util.regex.Matcher;
import java.util.regex.Pattern;

/** The public face of the document, rules of LANGUAGE.md that can be seen from outside, and the room that calls take. */
public final class FaceTest {
    private static final String SOURCE = "src/main/java/TheodoliteRow.java";
    private static final String[] FACE = {
        "boolean datum(int,int,boolean) IndexOutOfBoundsException IllegalArgumentException",
        "boolean isClosed()",
        "boolean withdraw(int,boolean) IndexOutOfBoundsException",
        "int check(int) IndexOutOfBoundsException IllegalStateException",
        "int checkAnew(int) IndexOutOfBoundsException IllegalStateException",
        "int clean(int) IllegalArgumentException",
        "int end()",
        "int go(int) IndexOutOfBoundsException IllegalStateException",
        "int observe(int,int,int,int) IndexOutOfBoundsException IllegalArgumentException IllegalStateException",
        "int parts()",
        "int station() IllegalStateException",
        "int sum()",
        "int worst()",
        "long free(int) IndexOutOfBoundsException",
        "long height(int) IndexOutOfBoundsException",
        "long heightAnew(int) IndexOutOfBoundsException",
        "long residual(int) IndexOutOfBoundsException IllegalStateException",
        "long score(int) IndexOutOfBoundsException IllegalStateException",
        "long trees(int) IndexOutOfBoundsException",
    };
    private static final String[] RULED_OUT = {
        "import ", "package ", "->", "::", "try ", "catch", "finally", "synchronized", "assert ", "native",
        "System.", "Object", "@", "\" +", "+ \"", "Exact(", "while (", "(;;", "protected", "implements", "extends",
    };
    /** The interface in its order, with what it says ahead of the calls. */
    private static final String[] IN_ORDER = {
        "public static final int NONE = -1;", "public TheodoliteRow()",
        "---- stations, observations", "public int station(", "public boolean datum(", "public int observe(",
        "public boolean withdraw(", "public int clean(",
        "---- paths", "public int go(", "public int end(", "public int sum(", "public boolean isClosed(",
        "---- questions", "public long height(", "public long heightAnew(", "public long free(", "public long residual(",
        "public int check(", "public int checkAnew(", "public long score(", "public int worst(", "public long trees(",
        "public int parts(",
    };
    /** What the class may take from the library, and make; it needs no more. */
    private static final Set<String> LIBRARY = Set.of("Math.abs", "Math.floorDiv", "Math.max", "Math.min");
    private static final Set<String> MADE = Set.of("int", "long", "boolean", "Net", "Adjustment", "TreeWalk", "Path",
            "IndexOutOfBoundsException", "IllegalArgumentException", "IllegalStateException");
    private static final Set<String> CONSTANTS =
            Set.of("int", "long", "boolean", "char", "java.lang.String", "[I", "[J", "[C", "[B");
    private static final int MOST_PARAMETERS = 7;
    private static final int MOST_CLASSES = 12;
    private static final int MOST_FIELDS = 20;
    private static final int MOST_LINES = 60;

    public static void main(String[] args) throws IOException {
        methods();
        otherMembers();
        none();
        classesInside();
        sizes();
        String text = Files.readString(Path.of(SOURCE));
        source(text);
        order(text);
        library(text);
        lengths(text);
        room();
        Expect.finish("FaceTest");
    }

    private static void methods() {
        List<String> face = new ArrayList<>();
        List<String> publicNames = new ArrayList<>();
        for (Method method : TheodoliteRow.class.getDeclaredMethods()) {
            if (!Modifier.isPrivate(method.getModifiers())) {
                face.add(told(method));
                publicNames.add(method.getName());
                Expect.due(method + " is public alone", Modifier.PUBLIC, () -> method.getModifiers());
            }
        }
        Collections.sort(face);
        Expect.due("the face", Arrays.asList(FACE), () -> face);
        for (Class<?> any : allClasses()) {
            for (Method method : any.getDeclaredMethods()) {
                boolean isFace = any == TheodoliteRow.class && Modifier.isPublic(method.getModifiers());
                Expect.due(method + " bears a public name", isFace, () -> publicNames.contains(method.getName()));
            }
        }
    }

    private static String told(Method method) {
        StringBuilder text = new StringBuilder(method.getReturnType().getName() + " " + method.getName() + "(");
        for (Class<?> type : method.getParameterTypes()) {
            text.append(text.charAt(text.length() - 1) == '(' ? "" : ",").append(type.getName());
        }
        text.append(')');
        for (Class<?> thrown : method.getExceptionTypes()) {
            text.append(' ').append(thrown.getSimpleName());
        }
        return text.toString();
    }

    private static void otherMembers() {
        Expect.due("the class is public and final", Modifier.PUBLIC | Modifier.FINAL,
                () -> TheodoliteRow.class.getModifiers());
        Constructor<?>[] constructors = TheodoliteRow.class.getDeclaredConstructors();
        Expect.due("constructors", 1, () -> constructors.length);
        Expect.due("the constructor is public", Modifier.PUBLIC, () -> constructors[0].getModifiers());
        Expect.due("the constructor's parameters", 0, () -> constructors[0].getParameterCount());
        for (Field field : TheodoliteRow.class.getDeclaredFields()) {
            boolean isNone = field.getName().equals("NONE");
            Expect.due(field + " is private", !isNone, () -> Modifier.isPrivate(field.getModifiers()));
            if (isNone) {
                Expect.due("NONE", "public static final", () -> Modifier.toString(field.getModifiers()));
            }
        }
    }

    private static void none() {
        Expect.due("the public constants", "[public static final int TheodoliteRow.NONE]",
                () -> Arrays.toString(TheodoliteRow.class.getFields()));
        Expect.due("NONE", -1, () -> TheodoliteRow.NONE);
    }

    private static List<Class<?>> allClasses() {
        List<Class<?>> classes = new ArrayList<>(List.of(TheodoliteRow.class.getDeclaredClasses()));
        classes.add(TheodoliteRow.class);
        return classes;
    }

    private static void classesInside() {
        for (Class<?> inside : TheodoliteRow.class.getDeclaredClasses()) {
            int modifiers = inside.getModifiers();
            Expect.due(inside + " is static", true, () -> Modifier.isStatic(modifiers));
            Expect.due(inside + " is hidden", false,
                    () -> Modifier.isPublic(modifiers) || Modifier.isProtected(modifiers));
        }
        for (Class<?> any : allClasses()) {
            for (Field field : any.getDeclaredFields()) {
                int its = field.getModifiers();
                boolean isConstant = Modifier.isFinal(its) && CONSTANTS.contains(field.getType().getName());
                Expect.due(field + " is no static state", true, () -> !Modifier.isStatic(its) || isConstant);
            }
        }
    }

    /** Rule 11, without the length of methods. */
    private static void sizes() {
        Expect.due("classes are " + MOST_CLASSES + " at most", true, () -> allClasses().size() <= MOST_CLASSES);
        for (Class<?> any : allClasses()) {
            int fields = 0;
            for (Field field : any.getDeclaredFields()) {
                fields += Modifier.isStatic(field.getModifiers()) ? 0 : 1;
            }
            int its = fields;
            Expect.due(any + " has " + MOST_FIELDS + " fields at most", true, () -> its <= MOST_FIELDS);
            for (Method method : any.getDeclaredMethods()) {
                Expect.due(method + " takes " + MOST_PARAMETERS + " at most", true,
                        () -> method.getParameterCount() <= MOST_PARAMETERS);
            }
        }
    }

    private static void source(String text) {
        for (String word : RULED_OUT) {
            Expect.due("the source has '" + word + "'", false, () -> text.contains(word));
        }
        Expect.due("the source is of plain signs", true, () -> text.chars().allMatch(c -> c == '\n' || c >= 32 && c < 127));
    }

    private static void order(String text) {
        int last = -1;
        for (String next : IN_ORDER) {
            int place = text.indexOf(next, last + 1);
            Expect.due("'" + next + "' stands where the document has it", true, () -> place >= 0);
            Expect.due("'" + next + "' stands once", place, () -> text.lastIndexOf(next));
            last = Math.max(last, place);
        }
    }

    private static void library(String text) {
        String code = text.replaceAll("(?s)/\\*.*?\\*/|//[^\n]*|\"[^\"\n]*\"", "");
        Matcher called = Pattern.compile("\\b[A-Z]\\w*\\.\\w+").matcher(code);
        while (called.find()) {
            String name = called.group();
            Expect.due(name + " may be called", true, () -> LIBRARY.contains(name));
        }
        Matcher made = Pattern.compile("\\bnew (\\w+)").matcher(code);
        while (made.find()) {
            String name = made.group(1);
            Expect.due(name + " may be made", true, () -> MADE.contains(name));
        }
    }

    private static void lengths(String text) {
        String[] lines = text.split("\n");
        for (int begin = 0; begin < lines.length; begin++) {
            String line = lines[begin];
            String indent = line.substring(0, line.length() - line.stripLeading().length());
            boolean isBegin = line.endsWith("{") || line.endsWith(")");
            if (isBegin && line.contains("(") && indent.length() <= 8) {
                int end = begin;
                while (end < lines.length && !lines[end].equals(indent + "}")) {
                    end++;
                }
                int length = end - begin;
                Expect.due(line.strip() + " .. is of " + MOST_LINES + " lines at most", true, () -> length < MOST_LINES);
            }
        }
    }

    /** All rows are made in the constructor: the dearest calls make nothing. */
    private static void room() {
        com.sun.management.ThreadMXBean memory =
                (com.sun.management.ThreadMXBean) java.lang.management.ManagementFactory.getThreadMXBean();
        long[] used = new long[2];
        for (int time = 0; time < 2; time++) {
            TheodoliteRow row = Nets.full();
            long before = memory.getCurrentThreadAllocatedBytes();
            callAll(row);
            used[time] = memory.getCurrentThreadAllocatedBytes() - before;
        }
        Expect.due("the room of some 490 calls, " + used[1] + " bytes, is next to nothing", true, () -> used[1] < 4096);
    }

    private static void callAll(TheodoliteRow row) {
        for (int time = 0; time < 18; time++) {
            row.clean(0);
            row.worst();
            for (int o = 0; o < 14; o++) {
                row.withdraw(o, false);
            }
            for (int s = 0; s < 6; s++) {
                row.heightAnew(s);
            }
            row.checkAnew(13);
            row.free(5);
            row.go(0);
            row.end();
        }
    }
}
