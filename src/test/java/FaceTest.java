import java.lang.reflect.Constructor;
import java.lang.reflect.Field;
import java.lang.reflect.Method;
import java.lang.reflect.Modifier;
import java.util.ArrayList;
import java.util.Collections;
import java.util.HashSet;
import java.util.List;
import java.util.Set;

/** The class's face is the document's, and it keeps those rules of LANGUAGE.md that reflection can see. */
public final class FaceTest {
    private static final String[] FACE = {
        "int feed(int,int,int,int,int)",
        "boolean end(int)",
        "void ground(int,int) IllegalArgument",
        "int channel() UnsupportedOperation",
        "int well(int,int,int,int) IndexOutOfBounds IllegalState IllegalArgument UnsupportedOperation",
        "boolean may(int) IndexOutOfBounds IllegalState",
        "int dig(int,int,int) IndexOutOfBounds IllegalState IllegalArgument",
        "int years(int) IllegalArgument",
        "boolean collapse(int,int,boolean) IndexOutOfBounds IllegalState",
        "int flow(int) IndexOutOfBounds IllegalState",
        "int harm(int) IndexOutOfBounds IllegalState",
        "int seep(int,int) IndexOutOfBounds IllegalState",
        "void sell(int,int,int,int) IndexOutOfBounds IllegalState IllegalArgument UnsupportedOperation",
        "int heirs(int,int,int,int,int,int,int,int,int,int) IndexOutOfBounds IllegalState IllegalArgument"
            + " UnsupportedOperation",
        "void let(int,int,int,int) IndexOutOfBounds IllegalState IllegalArgument",
        "int minutes(int) IllegalArgument",
        "int holder(int,int) IndexOutOfBounds IllegalArgument",
        "int share(int,int) IndexOutOfBounds NoSuchElement",
        "int law() IllegalArgument",
        "int fault()",
        "int says(int) NoSuchElement",
        "int pays(int,int,int) IndexOutOfBounds IllegalState IllegalArgument",
        "int field(int,int,int) IllegalArgument",
        "int least()",
        "int count(int)"
    };

    private FaceTest() {
    }

    public static void main(String[] args) {
        Class<?> c = DesertChannels.class;
        Check.same("public", Modifier.isPublic(c.getModifiers()), true);
        Check.same("final", Modifier.isFinal(c.getModifiers()), true);
        methods(c);
        Constructor<?>[] made = c.getDeclaredConstructors();
        Check.same("constructors", made.length, 1);
        Check.same("constructor is public", Modifier.isPublic(made[0].getModifiers()), true);
        Check.same("constructor takes nothing", made[0].getParameterCount(), 0);
        Check.same("constructor throws nothing", made[0].getExceptionTypes().length, 0);
        for (Field f : c.getDeclaredFields()) {
            Check.same(f.getName() + " is private", Modifier.isPrivate(f.getModifiers()), !f.getName().equals("NONE"));
        }
        inside(c);
        Check.finish("FaceTest");
    }

    private static void methods(Class<?> c) {
        List<String> face = new ArrayList<>();
        for (Method m : c.getDeclaredMethods()) {
            if (Modifier.isPublic(m.getModifiers())) {
                face.add(written(m));
            } else {
                Check.same(m.getName() + " is private", Modifier.isPrivate(m.getModifiers()) || m.isSynthetic(), true);
                Check.same(m.getName() + " takes few", m.getParameterCount() <= 7, true);
            }
        }
        Collections.sort(face);
        List<String> due = new ArrayList<>(List.of(FACE));
        Collections.sort(due);
        Check.same("the face", String.join("\n", face), String.join("\n", due));
    }

    private static String written(Method m) {
        StringBuilder s = new StringBuilder(m.getReturnType().getName()).append(' ').append(m.getName()).append('(');
        for (Class<?> p : m.getParameterTypes()) {
            s.append(s.charAt(s.length() - 1) == '(' ? "" : ",").append(p.getName());
        }
        s.append(')');
        for (Class<?> thrown : m.getExceptionTypes()) {
            s.append(' ').append(thrown.getSimpleName().replace("Exception", ""));
        }
        return s.toString();
    }

    private static void inside(Class<?> c) {
        Set<String> publicNames = new HashSet<>();
        for (String f : FACE) {
            publicNames.add(f.substring(f.indexOf(' ') + 1, f.indexOf('(')));
        }
        List<Class<?>> all = new ArrayList<>(List.of(c.getDeclaredClasses()));
        Check.same("twelve classes at most", all.size() < 12, true);
        for (Class<?> one : all) {
            Check.same(one.getName() + " is static", Modifier.isStatic(one.getModifiers()), true);
        }
        all.add(c);
        for (Class<?> one : all) {
            int fields = 0;
            for (Field f : one.getDeclaredFields()) {
                boolean isStatic = Modifier.isStatic(f.getModifiers());
                fields += isStatic ? 0 : 1;
                Check.same(f + " is final if static", !isStatic || Modifier.isFinal(f.getModifiers()), true);
            }
            Check.same(one.getName() + " has few fields", fields <= 20, true);
            for (Method m : one.getDeclaredMethods()) {
                boolean isHidden = one != c || Modifier.isPrivate(m.getModifiers());
                Check.same(m + " has a name of its own", !isHidden || !publicNames.contains(m.getName()), true);
            }
        }
    }
}
