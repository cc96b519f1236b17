import java.lang.reflect.Constructor;
import java.lang.reflect.Field;
import java.lang.reflect.Method;
import java.lang.reflect.Modifier;
import java.util.Arrays;
import java.util.Set;
import java.util.TreeSet;

/** The public face is the document's, and the class keeps to the rules of LANGUAGE.md that can be seen in it. */
public final class FaceTest {
    private static final int IAE = 1;
    private static final int ISE = 2;
    private static final int IOOBE = 4;

    public static void main(String[] args) {
        Class<?> face = SafeControl.class;
        Check.isTrue("public and final", Modifier.isPublic(face.getModifiers()) && Modifier.isFinal(face.getModifiers()));
        Check.isTrue("no package", face.getPackageName().isEmpty());
        constructors(face);
        methods(face);
        fields(face);
        inside(face);
        Check.end();
    }

    private static void constructors(Class<?> face) {
        Constructor<?>[] all = face.getDeclaredConstructors();
        Check.isTrue("one constructor without parameters",
                all.length == 1 && all[0].getParameterCount() == 0 && Modifier.isPublic(all[0].getModifiers()));
    }

    private static void methods(Class<?> face) {
        Set<String> want = new TreeSet<>(Set.of(
                row("int automaton(int,int)", IAE | ISE), row("boolean event(int,boolean)", IAE | ISE),
                row("void edge(int,int,int,int)", IAE | ISE), row("void tell(int,int,int,boolean)", IAE),
                row("void clear()", 0), row("int make()", 0), row("int says(int,int)", IAE | ISE),
                row("int leads(int,int)", IAE | ISE), row("int part(int,int)", IAE | ISE),
                row("int many(int)", IAE | ISE), row("int why()", ISE), row("int whyEvent(int)", ISE | IOOBE),
                row("int conflict(int,int)", IAE), row("int act(int)", IAE | ISE), row("void reset()", ISE),
                row("int here()", ISE), row("int allowed()", ISE), row("int home()", ISE)));
        Set<String> got = new TreeSet<>();
        Set<String> publicNames = new TreeSet<>();
        for (Method method : face.getDeclaredMethods()) {
            if (Modifier.isPublic(method.getModifiers())) {
                got.add(row(signature(method), thrown(method)));
                publicNames.add(method.getName());
            }
        }
        Check.due("the public methods", want.toString(), got.toString());
        hidden(face, publicNames);
        for (Class<?> nested : face.getDeclaredClasses()) {
            for (Method method : nested.getDeclaredMethods()) {
                Check.isTrue(nested.getSimpleName() + "." + method.getName() + " bears no public method's name",
                        !publicNames.contains(method.getName()));
            }
        }
    }

    private static void hidden(Class<?> face, Set<String> publicNames) {
        for (Method method : face.getDeclaredMethods()) {
            if (!Modifier.isPublic(method.getModifiers()) && !method.isSynthetic()) {
                Check.isTrue(method.getName() + " is private", Modifier.isPrivate(method.getModifiers()));
                Check.isTrue(method.getName() + " bears no public method's name",
                        !publicNames.contains(method.getName()));
            }
        }
    }

    private static void fields(Class<?> type) {
        for (Field field : type.getDeclaredFields()) {
            int modifiers = field.getModifiers();
            Check.isTrue(field.getName() + " is private", Modifier.isPrivate(modifiers));
            Check.isTrue(field.getName() + " is final if it is static",
                    !Modifier.isStatic(modifiers) || Modifier.isFinal(modifiers));
        }
    }

    private static void inside(Class<?> face) {
        Class<?>[] nested = face.getDeclaredClasses();
        Check.isTrue("at most twelve classes", nested.length < 12);
        for (Class<?> one : nested) {
            int modifiers = one.getModifiers();
            Check.isTrue(one.getSimpleName() + " is static and not public",
                    Modifier.isStatic(modifiers) && !Modifier.isPublic(modifiers) && !Modifier.isProtected(modifiers));
            Check.isTrue(one.getSimpleName() + " has at most twenty fields", one.getDeclaredFields().length <= 20);
            for (Method method : one.getDeclaredMethods()) {
                Check.isTrue(method.getName() + " takes at most seven parameters", method.getParameterCount() <= 7);
                Check.isTrue(method.getName() + " is no lambda", !method.isSynthetic());
            }
            fields(one);
        }
    }

    private static String signature(Method method) {
        StringBuilder text = new StringBuilder();
        text.append(method.getReturnType().getName()).append(' ').append(method.getName()).append('(');
        text.append(String.join(",", Arrays.stream(method.getParameterTypes()).map(Class::getName).toList()));
        return text.append(')').toString();
    }

    private static int thrown(Method method) {
        int bits = 0;
        for (Class<?> type : method.getExceptionTypes()) {
            bits |= type == IllegalArgumentException.class ? IAE : type == IllegalStateException.class ? ISE
                    : type == IndexOutOfBoundsException.class ? IOOBE : 8;
        }
        return bits;
    }

    private static String row(String signature, int thrown) {
        return signature + " throws " + thrown;
    }

    private FaceTest() {
    }
}
