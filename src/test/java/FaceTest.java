import java.lang.reflect.Constructor;
import java.lang.reflect.Field;
import java.lang.reflect.Member;
import java.lang.reflect.Method;
import java.lang.reflect.Modifier;
import java.nio.charset.StandardCharsets;
import java.nio.file.Files;
import java.nio.file.Path;
import java.util.ArrayList;
import java.util.List;
import java.util.Set;
import java.util.TreeSet;
import java.util.regex.Matcher;
import java.util.regex.Pattern;

/** The public face is that of the document, to the letter; LANGUAGE.md rule 1. */
final class FaceTest {
    private FaceTest() {
    }

    public static void main(String[] args) throws Exception {
        Set<String> got = new TreeSet<>();
        for (Method m : PortDues.class.getDeclaredMethods()) {
            dueMember(m);
            if (Modifier.isPublic(m.getModifiers())) {
                got.add(signature(m.getReturnType().getName() + " " + m.getName(), m.getParameterTypes(), m.getExceptionTypes()));
            }
        }
        for (Constructor<?> c : PortDues.class.getDeclaredConstructors()) {
            dueMember(c);
            got.add(signature("PortDues", c.getParameterTypes(), c.getExceptionTypes()));
        }
        for (Field f : PortDues.class.getDeclaredFields()) {
            dueMember(f);
            if (Modifier.isPublic(f.getModifiers())) {
                got.add(f.getType().getName() + " " + f.getName() + " = " + f.getInt(null));
            }
        }
        Check.due("the face", String.join("\n", got), String.join("\n", documented()));
        Check.due("the class", Modifier.toString(PortDues.class.getModifiers()), "public final");
        dueOwnNames();
        Check.finish();
    }

    private static void dueMember(Member m) {
        int modifiers = m.getModifiers();
        boolean allowed = m.isSynthetic() || Modifier.isPublic(modifiers) || Modifier.isPrivate(modifiers);
        Check.due("public or private: " + m.getName(), allowed, true);
    }

    private static String signature(String name, Class<?>[] parameters, Class<?>[] exceptions) {
        List<String> all = new ArrayList<>();
        for (Class<?> p : parameters) {
            all.add(p.getName());
        }
        List<String> thrown = new ArrayList<>();
        for (Class<?> e : exceptions) {
            thrown.add(e.getSimpleName());
        }
        return name + all + thrown;
    }

    private static Set<String> documented() throws Exception {
        String text = Files.readString(Path.of("../shared/DOC.md"), StandardCharsets.UTF_8);
        String face = text.substring(text.indexOf("public final class PortDues {"), text.indexOf("## Description"));
        Set<String> due = new TreeSet<>();
        Matcher constants = Pattern.compile("public static final (int \\w+ = -?\\d+);").matcher(face);
        while (constants.find()) {
            due.add(constants.group(1));
        }
        Matcher methods = Pattern.compile("public ((?:\\w+ )?\\w+)\\(([^)]*)\\)(?: throws ([^;]*))?;").matcher(face);
        while (methods.find()) {
            List<String> types = new ArrayList<>();
            for (String parameter : methods.group(2).split(", ")) {
                if (!parameter.isEmpty()) {
                    types.add(parameter.split(" ")[0]);
                }
            }
            List<String> thrown = methods.group(3) == null ? List.of() : List.of(methods.group(3).split(", "));
            due.add(methods.group(1) + types + thrown);
        }
        Check.due("65 promises and two constants", due.size(), 67);
        return due;
    }

    /** No method of our own, also in the classes inside, has the name of one of the face. */
    private static void dueOwnNames() {
        Set<String> face = new TreeSet<>();
        for (Method m : PortDues.class.getMethods()) {
            if (m.getDeclaringClass() == PortDues.class) {
                face.add(m.getName());
            }
        }
        List<Class<?>> classes = new ArrayList<>(List.of(PortDues.class.getDeclaredClasses()));
        classes.add(PortDues.class);
        Check.due("some twelve classes", classes.size() <= 12, true);
        for (Class<?> c : classes) {
            int fields = 0;
            for (Field f : c.getDeclaredFields()) {
                fields += Modifier.isStatic(f.getModifiers()) ? 0 : 1;
            }
            Check.due("some twenty fields in " + c.getName(), fields <= 20, true);
            for (Method m : c.getDeclaredMethods()) {
                boolean own = c != PortDues.class || !Modifier.isPublic(m.getModifiers());
                Check.due("a name of its own for " + m, own && face.contains(m.getName()), false);
                Check.due("at most seven parameters in " + m, m.getParameterCount() <= 7, true);
            }
        }
    }
}
