import java.lang.reflect.Constructor;
import java.lang.reflect.Field;
import java.lang.reflect.Method;
import java.lang.reflect.Modifier;
import java.util.Arrays;
import java.util.NoSuchElementException;
import java.util.Set;
import java.util.TreeSet;

/** The public face: its constant, its constructor, its methods, and no other member that is not private. */
public final class FaceTest {
    private static final String[] METHODS = {
        "int feed(long,long,long)", "int array()", "int work()", "int stripe(int,int)", "int unit(int,int,int)",
        "int datum(int,int)", "int at(int,int)", "int disk(int,int)", "int read(int)", "int write(int,int)",
        "int lose(int)", "boolean replace(int)", "int rebuild(int)", "int home(int)", "int judged(int)",
        "int pairs(int,int)", "int even()", "int worst(int)", "int spread(int)", "int differs(int,int)",
        "int family()", "int seek(int)", "int cost(int)", "int price(int)", "int would(int,int)",
        "int time(int,int)", "boolean bears(int)", "int risk()", "int grow(int,int)", "int lost(int)",
        "boolean see(int,boolean)", "int who()", "int ask()", "int loads(int,int,int)",
        "boolean mark(int,boolean)", "int count(int)"};

    public static void main(String[] args) throws Exception {
        Check c = new Check("face");
        Class<?> face = ParitySpread.class;
        c.due("public", Modifier.isPublic(face.getModifiers()), true);
        c.due("final", Modifier.isFinal(face.getModifiers()), true);
        c.due("NONE", ParitySpread.NONE, -1);
        Set<String> due = new TreeSet<>(Arrays.asList(METHODS));
        c.due("methods due", due.size(), 36);
        Set<String> found = new TreeSet<>();
        for (Method m : face.getDeclaredMethods()) {
            if (!Modifier.isPrivate(m.getModifiers())) {
                found.add(signature(m));
                c.due(m.getName() + " public", Modifier.isPublic(m.getModifiers()), true);
                c.due(m.getName() + " static", Modifier.isStatic(m.getModifiers()), false);
            }
        }
        c.due("methods " + found, found.equals(due), true);
        fields(c, face);
        Constructor<?>[] all = face.getDeclaredConstructors();
        c.due("constructors", all.length, 1);
        c.due("constructor public", Modifier.isPublic(all[0].getModifiers()), true);
        c.due("constructor without parameters", all[0].getParameterCount(), 0);
        Class<?>[] thrown = face.getMethod("lost", int.class).getExceptionTypes();
        c.due("lost throws", thrown.length == 1 && thrown[0] == NoSuchElementException.class, true);
        c.end();
    }

    private static void fields(Check c, Class<?> face) {
        for (Field f : face.getDeclaredFields()) {
            boolean isNone = f.getName().equals("NONE");
            c.due(f.getName() + " public", Modifier.isPublic(f.getModifiers()), isNone);
            c.due(f.getName() + " private", Modifier.isPrivate(f.getModifiers()), !isNone);
        }
    }

    private static String signature(Method m) {
        StringBuilder b = new StringBuilder();
        for (Class<?> p : m.getParameterTypes()) {
            b.append(b.length() == 0 ? "" : ",").append(p.getName());
        }
        return m.getReturnType().getName() + " " + m.getName() + "(" + b + ")";
    }
}
