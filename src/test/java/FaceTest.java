import java.lang.reflect.Constructor;
import java.lang.reflect.Field;
import java.lang.reflect.Method;
import java.lang.reflect.Modifier;
import java.util.List;
import java.util.Set;
import java.util.TreeSet;

/** The face of the class as the document prints it, and what LANGUAGE.md says of its members. */
public final class FaceTest {
    private static final Checks C = new Checks();
    private static final List<String> FACE = List.of(
        "int plank(int,int,int)", "int set(int,int,int)", "int told(int,int)", "int gap(int,int)",
        "int feed(int,long)", "int text()", "int force(int)",
        "int comes()", "long run(int,int,int)", "int lay(int)", "int air(int)", "int tight()", "int out()",
        "long sack(int)", "int first(int)", "int most(int)", "int far(int)", "long nails(int)",
        "int image()", "int back()", "int count(int)",
        "int sheet(int,int,int)", "int cell(int,int,int)", "int copy(int,int,int,int,int)",
        "int planks(int,int,int,int)", "int taken(int,int)",
        "int NONE", "int BAD", "int STATE", "int FULL", "long NO");

    public static void main(String[] args) {
        Class<?> c = DriedOut.class;
        is("the class is public and final", Modifier.isPublic(c.getModifiers()) && Modifier.isFinal(c.getModifiers()));
        Constructor<?>[] made = c.getDeclaredConstructors();
        is("one public constructor", made.length == 1 && Modifier.isPublic(made[0].getModifiers()) && made[0].getParameterCount() == 0);
        members(c);
        Class<?>[] inside = c.getDeclaredClasses();
        is("some twelve classes at most", inside.length < 12);
        for (Class<?> in : inside) nested(in);
        C.end();
    }

    private static void is(String what, boolean so) {
        C.due(what, so ? 1 : 0, 1);
    }

    private static void members(Class<?> c) {
        Set<String> open = new TreeSet<>(), names = new TreeSet<>();
        for (Method m : c.getDeclaredMethods()) {
            if (Modifier.isPrivate(m.getModifiers())) continue;
            StringBuilder takes = new StringBuilder();
            for (Class<?> p : m.getParameterTypes()) takes.append(takes.length() > 0 ? "," : "").append(p);
            open.add(m.getReturnType() + " " + m.getName() + "(" + takes + ")");
            names.add(m.getName());
            is(m + " is public, of the object", Modifier.isPublic(m.getModifiers()) && !Modifier.isStatic(m.getModifiers()));
        }
        for (Field f : c.getDeclaredFields()) {
            if (!Modifier.isPrivate(f.getModifiers())) open.add(f.getType() + " " + f.getName());
        }
        is("the face is the document's: " + open, open.equals(new TreeSet<>(FACE)));
        for (Method m : c.getDeclaredMethods()) {
            is(m + " bears a public one's name", Modifier.isPublic(m.getModifiers()) || !names.contains(m.getName()));
        }
        fields(c);
    }

    private static void nested(Class<?> in) {
        is(in + " is static", Modifier.isStatic(in.getModifiers()));
        is(in + " is not public", !Modifier.isPublic(in.getModifiers()) && !Modifier.isProtected(in.getModifiers()));
        is(in + " has no class inside", in.getDeclaredClasses().length == 0);
        for (Method m : in.getDeclaredMethods()) {
            is(m + " takes seven at most", m.getParameterCount() <= 7);
            is(m + " is not one of Object's", !Set.of("equals", "hashCode", "toString").contains(m.getName()));
        }
        fields(in);
    }

    private static void fields(Class<?> c) {
        int own = 0;
        for (Field f : c.getDeclaredFields()) {
            boolean shared = Modifier.isStatic(f.getModifiers());
            own += shared ? 0 : 1;
            is(f + " is final", !shared || Modifier.isFinal(f.getModifiers()));
        }
        is(c + " has some twenty fields at most", own <= 20);
    }
}
