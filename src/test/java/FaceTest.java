import java.lang.reflect.Constructor;
import java.lang.reflect.Field;
import java.lang.reflect.Method;
import java.lang.reflect.Modifier;
import java.util.ArrayList;
import java.util.Arrays;
import java.util.HashSet;
import java.util.List;
import java.util.Set;

/** The public face, and rule 1 of the language: nothing else can be seen of the class. */
public final class FaceTest {
    private static final List<String> FACE = List.of(
        "void clear()", "void set(int,int,int)", "void run(int,int,int,int,int)",
        "void entry(int,int,int,int,int)", "void hold(int,boolean)", "void bit(int,int,boolean)",
        "void tell(int,int)", "int check()", "int about(int,int)", "int runOf(int,int,int)",
        "int entryOf(int,int,int)", "boolean isTaken(int,int)", "int told(int)", "int find(long)");

    public static void main(String[] args) {
        Due due = new Due();
        Class<?> c = ImageChecker.class;
        due.same("the class is public and final",
            c.getModifiers() & (Modifier.PUBLIC | Modifier.FINAL), Modifier.PUBLIC | Modifier.FINAL);
        due.same("it has no package", c.getPackageName().length(), 0);
        Constructor<?>[] made = c.getDeclaredConstructors();
        due.same("constructors", made.length, 1);
        due.same("the constructor is public", Modifier.isPublic(made[0].getModifiers()) ? 1 : 0, 1);
        due.same("the constructor's parameters", made[0].getParameterCount(), 0);
        methods(due, c);
        for (Field f : c.getDeclaredFields()) {
            due.same("field " + f.getName() + " is private", Modifier.isPrivate(f.getModifiers()) ? 1 : 0, 1);
        }
        for (Class<?> inside : c.getDeclaredClasses()) {
            int m = inside.getModifiers();
            due.same("class " + inside.getName() + " is static", Modifier.isStatic(m) ? 1 : 0, 1);
            due.same("class " + inside.getName() + " is not public", m & (Modifier.PUBLIC | Modifier.PROTECTED), 0);
        }
        due.end("FaceTest");
    }

    private static void methods(Due due, Class<?> c) {
        List<String> seen = new ArrayList<>();
        Set<String> names = new HashSet<>();
        for (Method m : c.getDeclaredMethods()) {
            if (!Modifier.isPrivate(m.getModifiers())) {
                seen.add(written(m));
                names.add(m.getName());
            }
        }
        due.same("methods of the face", seen.size(), FACE.size());
        for (String method : FACE) {
            due.same(method, seen.contains(method) ? 1 : 0, 1);
        }
        List<Class<?>> all = new ArrayList<>(Arrays.asList(c.getDeclaredClasses()));
        all.add(c);
        for (Class<?> each : all) {
            for (Method m : each.getDeclaredMethods()) {
                if (Modifier.isPrivate(m.getModifiers())) {
                    due.same("private " + m.getName() + " has a name of its own", names.contains(m.getName()) ? 0 : 1, 1);
                }
            }
        }
    }

    private static String written(Method m) {
        StringBuilder s = new StringBuilder(m.getReturnType().getName()).append(' ').append(m.getName()).append('(');
        for (Class<?> p : m.getParameterTypes()) {
            s.append(s.charAt(s.length() - 1) == '(' ? "" : ",").append(p.getName());
        }
        return s.append(')').toString();
    }
}
