import java.io.IOException;
import java.lang.management.ManagementFactory;
import java.lang.reflect.Constructor;
import java.lang.reflect.Field;
import java.lang.reflect.Method;
import java.lang.reflect.Modifier;
import java.nio.file.Files;
import java.nio.file.Path;
import java.util.ArrayList;
import java.util.List;
import java.util.Set;
import java.util.TreeSet;
import java.util.regex.Matcher;
import java.util.regex.Pattern;

/** The public face as the document's code block tells it, the words that the language rules bar, and what calls make. */
public final class FaceTest {
    private static final Check c = new Check();

    public static void main(String[] args) throws IOException {
        face();
        barred();
        made();
        c.close("FaceTest");
    }

    private static void face() throws IOException {
        Set<String> told = new TreeSet<>();
        String doc = Files.readString(Path.of("../shared/DOC.md"));
        Matcher m = Pattern.compile("public (int|boolean) (\\w+)\\(([^)]*)\\)").matcher(doc);
        while (m.find()) {
            int parameters = m.group(3).isBlank() ? 0 : m.group(3).split(",").length;
            told.add(m.group(1) + " " + m.group(2) + " " + parameters);
        }
        Set<String> seen = new TreeSet<>();
        Set<String> hidden = new TreeSet<>();
        for (Method method : DrownedRooms.class.getDeclaredMethods()) {
            if (Modifier.isPrivate(method.getModifiers())) {
                hidden.add(method.getName());
                continue;
            }
            c.due(method + " is public", Modifier.isPublic(method.getModifiers()), true);
            seen.add(method.getReturnType() + " " + method.getName() + " " + method.getParameterCount());
            for (Class<?> type : method.getParameterTypes()) {
                c.due(method + " takes ints", type == int.class, true);
            }
        }
        c.due("methods told", told.size(), 40);
        c.dueText("the face", seen.toString(), told.toString());
        for (Class<?> inner : DrownedRooms.class.getDeclaredClasses()) {
            c.due(inner + " is static", Modifier.isStatic(inner.getModifiers()), true);
            for (Method method : inner.getDeclaredMethods()) {
                if (Modifier.isPrivate(method.getModifiers())) {
                    hidden.add(method.getName());
                }
            }
        }
        for (String signature : seen) {
            c.due(signature + " is no private name", hidden.contains(signature.split(" ")[1]), false);
        }
        for (Field field : DrownedRooms.class.getDeclaredFields()) {
            boolean isNone = field.getName().equals("NONE");
            c.due(field + " is public", Modifier.isPublic(field.getModifiers()), isNone);
            c.due(field + " is private", Modifier.isPrivate(field.getModifiers()), !isNone);
        }
        Constructor<?>[] constructors = DrownedRooms.class.getDeclaredConstructors();
        c.due("one constructor", constructors.length, 1);
        c.due("it is public", Modifier.isPublic(constructors[0].getModifiers()), true);
        c.due("the class is final", Modifier.isFinal(DrownedRooms.class.getModifiers()), true);
    }

    private static void barred() throws IOException {
        String source = Files.readString(Path.of("src/main/java/DrownedRooms.java"));
        String[] words = {"\\btry\\b", "\\bcatch\\b", "->", "::", "\\bassert\\b", "\\bsynchronized\\b", "^package",
            "\\binstanceof\\b", "\\bdouble\\b", "\\bfloat\\b", "Exact\\(", "System\\.(?!arraycopy)",
            "Integer\\.(?!bitCount)", "\\bstatic \\{", "import (?!java\\.util\\.NoSuchElementException;)"};
        for (String word : words) {
            c.due("found " + word, Pattern.compile(word, Pattern.MULTILINE).matcher(source).find(), false);
        }
        for (int i = 0; i < source.length(); i++) {
            c.due("sign at " + i, source.charAt(i) < 128, true);
        }
    }

    /** Calls make nothing anew but the growth of the bill's text, so that long runs stay small. */
    private static void made() {
        com.sun.management.ThreadMXBean bean =
                (com.sun.management.ThreadMXBean) ManagementFactory.getThreadMXBean();
        long id = Thread.currentThread().getId();
        List<DrownedRooms> warm = new ArrayList<>();
        for (int i = 0; i < 3; i++) {
            warm.add(full());
            useAll(warm.get(i));
        }
        DrownedRooms x = full();
        Check.billOf(x, 0);
        long before = bean.getThreadAllocatedBytes(id);
        useAll(x);
        long bytes = bean.getThreadAllocatedBytes(id) - before;
        c.due("bytes that calls made are few (" + bytes + ")", bytes < 2000, true);
        before = bean.getThreadAllocatedBytes(id);
        DrownedRooms made = new DrownedRooms();
        bytes = bean.getThreadAllocatedBytes(id) - before;
        c.due("bytes that a constructor made are few (" + bytes + ")", bytes < 20000, true);
        c.due("a new one", made.count(0), 0);
    }

    private static DrownedRooms full() {
        return Check.in("house a 1 2;house b 3 4;room d a 30 1;room e b 9 2;guest f 99 9;guest g 99 20;sleeps f d 9;");
    }

    private static void useAll(DrownedRooms x) {
        x.take(1, 1, 9);
        x.days(3);
        x.undo();
        x.plan(0, 5);
        x.round();
        x.visits(0);
        x.quiet(0);
        x.quarrels();
        x.brings(60);
        x.bill(0);
        x.drawn(20, 7);
        x.odds(0, 30, 7);
        x.image(0);
        x.restore(0);
        x.feed(0x00000100, 0, 0, 0, 0);
        x.end(3);
        x.stays();
        x.feed(0, 0, 0, 0, 0);
        x.end(2);
        x.marks();
        x.feed(0x64617920, 0x313b2020, 0x20202020, 0x20202020, 0x20202020);
        x.book(1);
        x.feed(0x77657420, 0x6f72206c, 0x65742020, 0x20202020, 0x20202020);
        x.sentence();
        x.said(-1);
        x.feed(0x6c616b65, 0x20353b20, 0x20202020, 0x20202020, 0x20202020);
        x.valley();
    }
}
