import java.lang.reflect.Constructor;
import java.lang.reflect.Field;
import java.lang.reflect.Method;
import java.lang.reflect.Modifier;
import java.util.HashSet;
import java.util.Set;
import java.util.TreeSet;

/** The public face of the document, all of it and nothing else; LANGUAGE.md, rules 1, 2, 5 and 11 as far as they show. */
public final class FaceTest {
    private static final Due due = new Due();
    private static final String[] FACE = {
        "int kind(int, int, boolean, int, long)", "int named(long)", "int edge(int, int, int)", "int then(int, int)",
        "int pattern()", "boolean insert(int, int, int, int)", "boolean remove(int, int)", "boolean move(int, int, int)",
        "boolean put(int, int, int, int, int)", "boolean shade(int, int, int, int)", "int at(int, int, int, int)",
        "int row(int, int, int)", "boolean shares(int, int, int, int)", "int copy(int)", "int region(int, int, int, int, int)",
        "boolean turn(int)", "int paste(int, int, int)", "int rule(int, int)", "boolean becomes(int, int, int, int, int, int)",
        "int grow(int, int, int)", "long foretold(int, int, int, int)", "int count(int, int)", "int fits(int)",
        "int period(int, int)", "int kept(int)", "int congruent(int, int)", "int find(int, int, int)", "int floor(int, int)",
        "boolean place(int, int, int, int, int)", "boolean stock(int, int, int)", "int fill(int)", "int fills(int, int)",
        "int cheapest(int)", "int forced(int)", "int shown(int, int, int)", "int undo()", "int about(int)"};

    public static void main(String[] args) {
        Class<?> face = TileOffice.class;
        due.is("public final", face.getModifiers(), Modifier.PUBLIC | Modifier.FINAL);
        due.yes("in no package", face.getPackageName().isEmpty());
        due.is("NONE", TileOffice.NONE, -1);
        Set<String> publicNames = methods(face);
        fields(face, true);
        Constructor<?>[] made = face.getDeclaredConstructors();
        due.is("constructors", made.length, 1);
        due.yes("a public one without arguments", made[0].getParameterCount() == 0 && Modifier.isPublic(made[0].getModifiers()));
        Class<?>[] inside = face.getDeclaredClasses();
        due.yes("some twelve classes", inside.length + 1 <= 13);
        for (Class<?> c : inside) {
            due.yes(c.getName() + " is static", Modifier.isStatic(c.getModifiers()));
            due.no(c.getName() + " is hidden", Modifier.isPublic(c.getModifiers()) || Modifier.isProtected(c.getModifiers()));
            fields(c, false);
            for (Method m : c.getDeclaredMethods()) {
                due.no(c.getName() + "." + m.getName() + " has a public name", publicNames.contains(m.getName()));
                due.yes(m + " has seven parameters at most", m.getParameterCount() <= 7);
            }
        }
        due.end("FaceTest");
    }

    private static Set<String> methods(Class<?> face) {
        Set<String> due1 = new TreeSet<>(Set.of(FACE));
        Set<String> publicNames = new HashSet<>();
        Set<String> privateNames = new HashSet<>();
        for (Method m : face.getDeclaredMethods()) {
            if (Modifier.isPrivate(m.getModifiers())) {
                privateNames.add(m.getName());
                due.yes(m + " has seven parameters at most", m.getParameterCount() <= 7);
            } else {
                due.yes(m + " is in the face", due1.remove(told(m)));
                publicNames.add(m.getName());
                due.is(m + " is public and no more", m.getModifiers(), Modifier.PUBLIC);
            }
        }
        for (String missing : due1) {
            due.yes("there is " + missing, false);
        }
        privateNames.retainAll(publicNames);
        due.yes("no private method bears the name of a public one " + privateNames, privateNames.isEmpty());
        return publicNames;
    }

    private static String told(Method m) {
        StringBuilder text = new StringBuilder(m.getReturnType() + " " + m.getName() + "(");
        for (Class<?> type : m.getParameterTypes()) {
            text.append(text.charAt(text.length() - 1) == '(' ? "" : ", ").append(type);
        }
        return text + ")";
    }

    private static void fields(Class<?> c, boolean face) {
        int own = 0;
        for (Field f : c.getDeclaredFields()) {
            if (Modifier.isStatic(f.getModifiers())) {
                due.yes(f + " is final", Modifier.isFinal(f.getModifiers()));
            } else {
                own++;
            }
            due.yes(f + " is private", !face || Modifier.isPrivate(f.getModifiers()) || f.getName().equals("NONE"));
        }
        due.yes(c.getName() + " has some twenty fields: " + own, own <= 20);
    }
}
