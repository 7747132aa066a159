import java.lang.reflect.Constructor;
import java.lang.reflect.Field;
import java.lang.reflect.Method;
import java.lang.reflect.Modifier;
import java.util.ArrayList;
import java.util.Arrays;
import java.util.List;
import java.util.TreeSet;

/** The public face is the document's, and nothing else of the class can be reached from outside. */
final class FaceTest {
    private static final String[] FACE = {
        "way(int)boolean", "mat(int,int)int", "runner(int,int,int,int,int,int)int",
        "gun(int,int)boolean", "saw(int,int,int)int", "dead(int,boolean)boolean",
        "tear(int,int)boolean", "drop(int,boolean)boolean", "cut(int,int)boolean",
        "wave(int,boolean)boolean", "strike(int)boolean", "pardon()int", "told(int,int)int",
        "split(int,int)int", "guess(int,int,boolean)int", "doubt(int,int)int",
        "foretold(int,int)int", "tight(int)int", "plan(int,int)int", "feed(int)int",
        "end(int)boolean", "fault()int", "list(int)int", "place(int)int", "many()int",
        "prizes()int", "team(int,int)int", "state(int)int", "count(int)int", "image()void",
        "back()void"
    };

    private FaceTest() {
    }

    static void run() {
        Class<?> desk = RunDesk.class;
        Check.yes("RunDesk is public and final",
            Modifier.isPublic(desk.getModifiers()) && Modifier.isFinal(desk.getModifiers()));
        Check.due("NONE", RunDesk.NONE, -1);
        methods(desk);
        constructors(desk);
        fields(desk);
        for (Class<?> inside : desk.getDeclaredClasses()) {
            int modifiers = inside.getModifiers();
            Check.yes(inside + " is static and not public", Modifier.isStatic(modifiers)
                && !Modifier.isPublic(modifiers) && !Modifier.isProtected(modifiers));
        }
    }

    private static void methods(Class<?> desk) {
        TreeSet<String> found = new TreeSet<>();
        TreeSet<String> publicNames = new TreeSet<>();
        List<String> privateNames = new ArrayList<>();
        for (Method method : desk.getDeclaredMethods()) {
            if (Modifier.isPrivate(method.getModifiers())) {
                privateNames.add(method.getName());
            } else {
                found.add(signature(method));
                publicNames.add(method.getName());
                Check.yes(method + " is public", Modifier.isPublic(method.getModifiers()));
                Check.due("exceptions of " + method, method.getExceptionTypes().length,
                    method.getName().equals("back") ? 1 : 0);
            }
        }
        Check.yes("the methods are the document's: " + found,
            found.equals(new TreeSet<>(Arrays.asList(FACE))));
        for (String name : privateNames) {
            Check.no("a private method bears the name " + name, publicNames.contains(name));
        }
    }

    private static String signature(Method method) {
        StringBuilder out = new StringBuilder(method.getName()).append('(');
        for (Class<?> type : method.getParameterTypes()) {
            if (out.charAt(out.length() - 1) != '(') {
                out.append(',');
            }
            out.append(type.getName());
        }
        return out.append(')').append(method.getReturnType().getName()).toString();
    }

    private static void constructors(Class<?> desk) {
        Constructor<?>[] all = desk.getDeclaredConstructors();
        Check.due("constructors", all.length, 1);
        Check.due("parameters of the constructor", all[0].getParameterCount(), 0);
        Check.yes("the constructor is public", Modifier.isPublic(all[0].getModifiers()));
    }

    private static void fields(Class<?> desk) {
        for (Field field : desk.getDeclaredFields()) {
            int modifiers = field.getModifiers();
            Check.yes(field + " is private", field.getName().equals("NONE")
                ? Modifier.isPublic(modifiers) : Modifier.isPrivate(modifiers));
            if (Modifier.isStatic(modifiers)) {
                Check.yes(field + " is final", Modifier.isFinal(modifiers));
            }
        }
    }
}
