import java.lang.reflect.Constructor;
import java.lang.reflect.Field;
import java.lang.reflect.Member;
import java.lang.reflect.Method;
import java.lang.reflect.Modifier;
import java.util.Set;
import java.util.TreeSet;

/** The public face, and no member beside it that another class could see (LANGUAGE.md, rule 1). */
public final class FaceTest {
    private static final String[] FACE = {
        "int feed(int)", "int end(int)", "int text()", "int fault()", "int rule(int)",
        "int clerk(int, int)", "int finger(int, int)", "int thread(int, int)",
        "int tie(int, int, int)", "int cut(int)", "int move(int, int)", "int lose(int)",
        "int teach(int, int)", "int day(int)", "int owed(int, int)", "int sum(int)",
        "int ring(int)", "int clear(int)", "int left(int)", "int pays()", "int fewest()",
        "int place()", "int risk(int)", "int copies()", "int spare(int)", "int quarrel(int)",
        "long kept(int, int, int)", "long slips(int, int)", "long none(int, int)",
        "int see(int, int)", "int forget(int)", "int fits(int)", "int drift(int, int, int)",
        "int keep(int)", "int back(int)", "int sheet(int, int, int)", "int lay(int, int, int)",
        "int read(int, int, int, int)", "int torn()", "int count(int)",
    };

    public static void main(String[] args) {
        Due due = new Due("FaceTest");
        Class<ThreadBank> face = ThreadBank.class;
        due.is("modifiers", face.getModifiers(), Modifier.PUBLIC | Modifier.FINAL);
        due.is("methods", seenMethods(face).toString(), new TreeSet<>(Set.of(FACE)).toString());
        due.is("constants", seenFields(face).toString(), "[BAD, FULL, NONE, STATE]");
        Constructor<?>[] constructors = face.getDeclaredConstructors();
        due.is("constructors", constructors.length, 1);
        due.is("constructor", constructors[0].toString(), "public ThreadBank()");
        due.is("BAD", ThreadBank.BAD, -1);
        due.is("STATE", ThreadBank.STATE, -2);
        due.is("FULL", ThreadBank.FULL, -3);
        due.is("NONE", ThreadBank.NONE, -4);
        checkPrivateNames(due, face);
        due.end();
    }

    private static boolean isSeen(Member member) {
        return !Modifier.isPrivate(member.getModifiers()) && !member.isSynthetic();
    }

    private static Set<String> seenMethods(Class<?> face) {
        Set<String> seen = new TreeSet<>();
        for (Method method : face.getDeclaredMethods()) {
            if (isSeen(method)) {
                String types = java.util.Arrays.toString(method.getParameterTypes());
                String inside = types.substring(1, types.length() - 1);
                seen.add(method.getReturnType() + " " + method.getName() + "(" + inside + ")");
            }
        }
        return seen;
    }

    private static Set<String> seenFields(Class<?> face) {
        Set<String> seen = new TreeSet<>();
        for (Field field : face.getDeclaredFields()) {
            if (isSeen(field)) {
                seen.add(field.getName());
            }
        }
        return seen;
    }

    private static void checkPrivateNames(Due due, Class<?> face) {
        Set<String> names = new TreeSet<>();
        for (String method : FACE) {
            names.add(method.substring(method.indexOf(' ') + 1, method.indexOf('(')));
        }
        for (Method method : face.getDeclaredMethods()) {
            boolean hidden = Modifier.isPrivate(method.getModifiers());
            due.is("private " + method.getName(), hidden && names.contains(method.getName()) ? 1 : 0, 0);
        }
        for (Class<?> inside : face.getDeclaredClasses()) {
            due.is(inside + " is static", Modifier.isStatic(inside.getModifiers()) ? 1 : 0, 1);
            for (Method method : inside.getDeclaredMethods()) {
                due.is(inside + " " + method.getName(), names.contains(method.getName()) ? 1 : 0, 0);
            }
        }
    }
}
