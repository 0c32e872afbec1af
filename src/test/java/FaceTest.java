import java.io.IOException;
import java.lang.reflect.Constructor;
import java.lang.reflect.Field;
import java.lang.reflect.Method;
import java.lang.reflect.Modifier;
import java.nio.file.Files;
import java.nio.file.Path;
import java.util.ArrayList;
import java.util.Arrays;
import java.util.Collections;
import java.util.List;

/** The public face of the document, rules of LANGUAGE.md that can be seen from outside, and the room that calls take. */
public final class FaceTest {
    private static final String SOURCE = "src/main/java/TheodoliteRow.java";
    private static final String[] FACE = {
        "boolean datum(int,int,boolean) IndexOutOfBoundsException IllegalArgumentException",
        "boolean isClosed()",
        "boolean withdraw(int,boolean) IndexOutOfBoundsException",
        "int check(int) IndexOutOfBoundsException IllegalStateException",
        "int checkAnew(int) IndexOutOfBoundsException IllegalStateException",
        "int clean(int) IllegalArgumentException",
        "int end()",
        "int go(int) IndexOutOfBoundsException IllegalStateException",
        "int observe(int,int,int,int) IndexOutOfBoundsException IllegalArgumentException IllegalStateException",
        "int parts()",
        "int station() IllegalStateException",
        "int sum()",
        "int worst()",
        "long free(int) IndexOutOfBoundsException",
        "long height(int) IndexOutOfBoundsException",
        "long heightAnew(int) IndexOutOfBoundsException",
        "long residual(int) IndexOutOfBoundsException IllegalStateException",
        "long score(int) IndexOutOfBoundsException IllegalStateException",
        "long trees(int) IndexOutOfBoundsException",
    };
    private static final String[] RULED_OUT = {
        "import ", "package ", "->", "::", "try ", "catch", "finally", "synchronized", "assert ", "native",
        "System.", "Object", "@", "\" +", "+ \"", "Exact(", "while (true)", "protected",
    };

    public static void main(String[] args) throws IOException {
        methods();
        otherMembers();
        classesInside();
        source();
        room();
        Expect.finish("FaceTest");
    }

    private static void methods() {
        List<String> face = new ArrayList<>();
        List<String> publicNames = new ArrayList<>();
        for (Method method : TheodoliteRow.class.getDeclaredMethods()) {
            if (!Modifier.isPrivate(method.getModifiers())) {
                face.add(told(method));
                publicNames.add(method.getName());
                Expect.due(method + " is public alone", Modifier.PUBLIC, () -> method.getModifiers());
            }
        }
        Collections.sort(face);
        Expect.due("the face", Arrays.asList(FACE), () -> face);
        List<Class<?>> classes = new ArrayList<>(List.of(TheodoliteRow.class.getDeclaredClasses()));
        classes.add(TheodoliteRow.class);
        for (Class<?> any : classes) {
            for (Method method : any.getDeclaredMethods()) {
                boolean isFace = any == TheodoliteRow.class && Modifier.isPublic(method.getModifiers());
                Expect.due(method + " bears a public name", isFace, () -> publicNames.contains(method.getName()));
            }
        }
    }

    private static String told(Method method) {
        StringBuilder text = new StringBuilder(method.getReturnType().getName() + " " + method.getName() + "(");
        for (Class<?> type : method.getParameterTypes()) {
            text.append(text.charAt(text.length() - 1) == '(' ? "" : ",").append(type.getName());
        }
        text.append(')');
        for (Class<?> thrown : method.getExceptionTypes()) {
            text.append(' ').append(thrown.getSimpleName());
        }
        return text.toString();
    }

    private static void otherMembers() {
        Expect.due("the class is public and final", Modifier.PUBLIC | Modifier.FINAL,
                () -> TheodoliteRow.class.getModifiers());
        Constructor<?>[] constructors = TheodoliteRow.class.getDeclaredConstructors();
        Expect.due("constructors", 1, () -> constructors.length);
        Expect.due("the constructor is public", Modifier.PUBLIC, () -> constructors[0].getModifiers());
        Expect.due("the constructor's parameters", 0, () -> constructors[0].getParameterCount());
        for (Field field : TheodoliteRow.class.getDeclaredFields()) {
            boolean isNone = field.getName().equals("NONE");
            Expect.due(field + " is private", !isNone, () -> Modifier.isPrivate(field.getModifiers()));
            if (isNone) {
                Expect.due("NONE", "public static final", () -> Modifier.toString(field.getModifiers()));
            }
        }
    }

    private static void classesInside() {
        for (Class<?> inside : TheodoliteRow.class.getDeclaredClasses()) {
            int modifiers = inside.getModifiers();
            Expect.due(inside + " is static", true, () -> Modifier.isStatic(modifiers));
            Expect.due(inside + " is hidden", false,
                    () -> Modifier.isPublic(modifiers) || Modifier.isProtected(modifiers));
            for (Field field : inside.getDeclaredFields()) {
                int its = field.getModifiers();
                Expect.due(field + " is no static state", false, () -> Modifier.isStatic(its) && !Modifier.isFinal(its));
            }
        }
    }

    private static void source() throws IOException {
        String text = Files.readString(Path.of(SOURCE));
        for (String word : RULED_OUT) {
            Expect.due("the source has '" + word + "'", false, () -> text.contains(word));
        }
        Expect.due("the source is of plain signs", true, () -> text.chars().allMatch(c -> c == '\n' || c >= 32 && c < 127));
    }

    /** All rows are made in the constructor: the dearest calls make nothing. */
    private static void room() {
        com.sun.management.ThreadMXBean memory =
                (com.sun.management.ThreadMXBean) java.lang.management.ManagementFactory.getThreadMXBean();
        long[] used = new long[2];
        for (int time = 0; time < 2; time++) {
            TheodoliteRow row = Nets.full();
            long before = memory.getCurrentThreadAllocatedBytes();
            callAll(row);
            used[time] = memory.getCurrentThreadAllocatedBytes() - before;
        }
        Expect.due("the room of some 490 calls, " + used[1] + " bytes, is next to nothing", true, () -> used[1] < 4096);
    }

    private static void callAll(TheodoliteRow row) {
        for (int time = 0; time < 18; time++) {
            row.clean(0);
            row.worst();
            for (int o = 0; o < 14; o++) {
                row.withdraw(o, false);
            }
            for (int s = 0; s < 6; s++) {
                row.heightAnew(s);
            }
            row.checkAnew(13);
            row.free(5);
            row.go(0);
            row.end();
        }
    }
}
