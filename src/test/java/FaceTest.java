import java.io.IOException;
import java.lang.reflect.Constructor;
import java.lang.reflect.Field;
import java.lang.reflect.Method;
import java.lang.reflect.Modifier;
import java.nio.file.Files;
import java.nio.file.Path;
import java.util.Arrays;
import java.util.Set;
import java.util.TreeSet;

/** The public face of the document, and what can be seen of LANGUAGE.md's rules from outside. */
public final class FaceTest {
    private static final Check check = new Check();
    private static final String[] FACE = {
        "about(int,int,int)", "at(int,int)", "count(int)", "cursor(int,int,int)", "deed(int,int)", "deliver(int)",
        "erase(int,int)", "kinds(int,int)", "length(int)", "lose(int)", "mark(int,int,int,int,boolean)",
        "message(int,int)", "paste(int,int,int,int)", "path(int,int,int,int)", "repeat(int)", "same(int,int)",
        "sign(int,int)", "stream(int,int)", "sync(int,int)", "type(int,int,int)", "undo(int)",
    };
    /** What no line of the file may hold: each stands for something that a rule leaves out. */
    private static final String[] RULED_OUT = {
        "->", "::", "finally", "synchronized", "assert", "Exact(", "static {", "catch", "import", "double", "float",
        "Random", "System.", "Thread", "boolean[][]", "protected",
    };

    public static void main(String[] args) throws IOException {
        methods();
        fieldsAndConstructors();
        classesInside();
        source();
        callsMakeNothing();
        check.end();
    }

    private static void yes(String what, boolean holds) {
        check.due(what, 1, holds ? 1 : 0);
    }

    private static void methods() {
        Set<String> open = new TreeSet<>();
        Set<String> openNames = new TreeSet<>();
        for (Method m : SignRow.class.getDeclaredMethods()) {
            if (Modifier.isPrivate(m.getModifiers())) {
                continue;
            }
            StringBuilder text = new StringBuilder(m.getName()).append('(');
            for (Class<?> p : m.getParameterTypes()) {
                text.append(text.charAt(text.length() - 1) == '(' ? "" : ",").append(p.getName());
            }
            open.add(text.append(')').toString());
            openNames.add(m.getName());
            yes(m + " is public and answers an int", Modifier.isPublic(m.getModifiers())
                    && !Modifier.isStatic(m.getModifiers()) && m.getReturnType() == int.class);
            boolean mayThrow = Set.of("sign", "path", "kinds").contains(m.getName());
            yes(m + " says what it throws", mayThrow ? m.getExceptionTypes().length == 1
                    && m.getExceptionTypes()[0] == IndexOutOfBoundsException.class : m.getExceptionTypes().length == 0);
        }
        yes("the methods are the document's: " + open, open.equals(new TreeSet<>(Arrays.asList(FACE))));
        noOtherBearsTheirNames(openNames);
    }

    private static void noOtherBearsTheirNames(Set<String> openNames) {
        for (Method m : SignRow.class.getDeclaredMethods()) {
            yes(m.toString(), !Modifier.isPrivate(m.getModifiers()) || !openNames.contains(m.getName()));
            yes("at most seven parameters: " + m, m.getParameterCount() <= 7);
        }
        for (Class<?> inside : SignRow.class.getDeclaredClasses()) {
            for (Method m : inside.getDeclaredMethods()) {
                yes(m.toString(), !openNames.contains(m.getName()));
                yes("at most seven parameters: " + m, m.getParameterCount() <= 7);
            }
        }
    }

    private static void fieldsAndConstructors() {
        yes("public and final", SignRow.class.getModifiers() == (Modifier.PUBLIC | Modifier.FINAL));
        Set<String> open = new TreeSet<>();
        for (Field f : SignRow.class.getDeclaredFields()) {
            if (!Modifier.isPrivate(f.getModifiers())) {
                open.add(f.getName());
                yes(f + " is a constant", f.getModifiers() == (Modifier.PUBLIC | Modifier.STATIC | Modifier.FINAL)
                        && f.getType() == int.class);
            }
        }
        yes("the constants: " + open, open.equals(Set.of("NONE", "UNKNOWN", "OUTSIDE", "STATE", "ROOM")));
        Constructor<?>[] made = SignRow.class.getDeclaredConstructors();
        yes("one constructor", made.length == 1 && made[0].getModifiers() == Modifier.PUBLIC
                && made[0].getParameterCount() == 0);
    }

    private static void classesInside() {
        Class<?>[] inside = SignRow.class.getDeclaredClasses();
        yes("at most twelve classes", inside.length < 12);
        for (Class<?> c : inside) {
            yes(c + " is static", Modifier.isStatic(c.getModifiers()));
            yes(c + " is not open", !Modifier.isPublic(c.getModifiers()) && !Modifier.isProtected(c.getModifiers()));
            int fields = 0;
            for (Field f : c.getDeclaredFields()) {
                boolean fixed = Modifier.isStatic(f.getModifiers());
                yes(f + " is final if static", !fixed || Modifier.isFinal(f.getModifiers()));
                fields += fixed ? 0 : 1;
            }
            yes(c + " has at most twenty fields", fields <= 20);
        }
    }

    private static void source() throws IOException {
        int line = 0;
        for (String text : Files.readAllLines(Path.of("src/main/java/SignRow.java"))) {
            line++;
            for (String out : RULED_OUT) {
                yes("line " + line + " has no '" + out + "'", !text.contains(out));
            }
        }
        yes("the source was read", line > 100);
    }

    /** All calls of a run live in one room, so that only the constructor makes objects. */
    private static void callsMakeNothing() {
        com.sun.management.ThreadMXBean bean =
                (com.sun.management.ThreadMXBean) java.lang.management.ManagementFactory.getThreadMXBean();
        long thread = Thread.currentThread().getId();
        everyCall(new SignRow());
        bean.getThreadAllocatedBytes(thread);
        SignRow row = new SignRow();
        long before = bean.getThreadAllocatedBytes(thread);
        everyCall(row);
        long made = bean.getThreadAllocatedBytes(thread) - before;
        yes("some 500 calls made " + made + " bytes", made < 2048);
        before = bean.getThreadAllocatedBytes(thread);
        new SignRow();
        made = bean.getThreadAllocatedBytes(thread) - before;
        yes("a new object takes " + made + " bytes", made < 100_000);
    }

    private static void everyCall(SignRow x) {
        int answers = 0;
        for (int i = 0; i < 23; i++) {
            int r = i % 6;
            answers += x.stream(r, i) + x.type(r, 0, 65) + x.paste(r, 0, 10, 65) + x.erase(r, 1) + x.undo(r)
                    + x.mark(r, 0, 1, 2, true) + x.deliver(0) + x.deliver(9) + x.lose(0) + x.repeat(0)
                    + x.sync((r + 1) % 6, r) + x.length(r) + x.sign(r, 0) + x.path(r, 0, 1, 1) + x.kinds(r, 0)
                    + x.cursor(r, 0, 1) + x.at(r, 0) + x.about(r, 0, 0) + x.same(r, (r + 1) % 6) + x.deed(i, 0)
                    + x.message(0, 0) + x.count(0);
        }
        yes("calls were made", answers != 0);
    }
}
