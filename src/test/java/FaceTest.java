import java.lang.reflect.Constructor;
import java.lang.reflect.Field;
import java.lang.reflect.Method;
import java.lang.reflect.Modifier;
import java.util.Arrays;
import java.util.Set;
import java.util.TreeSet;

/** The public face is the document's, and nothing else of the class can be seen. */
public final class FaceTest {
    private static final String FACE =
        "int door() int way(int,int,int) int ford(int) int stones(int,int) int mule(int,int,int)"
        + " int lame(int,int,int) int load(int,int,int,int) int ask(int,int) int drain(int,int)"
        + " int put(int,int) int type(int,long,int) int clear(int) int fault(int) int day()"
        + " int run(int) int side(int,int,int) int where(int) int halves(int,int)"
        + " int within(int,int) int hang(int,int,int) int line(int) int unline() int borne()"
        + " int worst() int longer() int stays(int) int best(int) int liftings() int fewest()"
        + " int chance() int keep(int) int alone(int,int,int) long part(int) int image(int)"
        + " int from(int) int count(int) long digest()";

    private static int wrong = 0;

    private static void check(boolean right, String what) {
        if (right) return;
        wrong++;
        System.out.println("wrong: " + what);
    }

    private static String form(Method m) {
        StringBuilder text = new StringBuilder(m.getReturnType().getName() + " " + m.getName() + "(");
        for (Class<?> c : m.getParameterTypes()) {
            if (text.charAt(text.length() - 1) != '(') text.append(',');
            text.append(c.getName());
        }
        return text.append(')').toString();
    }

    private static Set<String> dueForms() {
        return new TreeSet<>(Arrays.asList(FACE.replace(") ", ")\n").split("\n")));
    }

    private static void checkMethods() {
        Set<String> due = dueForms(), seen = new TreeSet<>(), names = new TreeSet<>();
        for (Method m : EvenSides.class.getDeclaredMethods()) {
            if (Modifier.isPublic(m.getModifiers())) {
                seen.add(form(m));
                names.add(m.getName());
                check(!Modifier.isStatic(m.getModifiers()), "static: " + m);
            } else {
                check(Modifier.isPrivate(m.getModifiers()), "seen from outside: " + m);
            }
        }
        check(due.equals(seen), "methods are " + seen + ", due are " + due);
        check(due.size() == 37, "37 methods are told");
        checkPrivateNames(EvenSides.class, names);
        for (Class<?> c : EvenSides.class.getDeclaredClasses()) {
            check(Modifier.isStatic(c.getModifiers()), "not static: " + c);
            checkPrivateNames(c, names);
        }
    }

    private static void checkPrivateNames(Class<?> c, Set<String> names) {
        for (Method m : c.getDeclaredMethods()) {
            boolean face = c == EvenSides.class && Modifier.isPublic(m.getModifiers());
            check(face || !names.contains(m.getName()), "bears a public name: " + m);
            check(m.getParameterCount() <= 7, "more than seven parameters: " + m);
        }
    }

    private static void checkFields() throws Exception {
        Set<String> constants = new TreeSet<>();
        for (Field f : EvenSides.class.getDeclaredFields()) {
            if (Modifier.isPublic(f.getModifiers())) {
                check(Modifier.isStatic(f.getModifiers()) && Modifier.isFinal(f.getModifiers()), "" + f);
                constants.add(f.getName() + " " + f.getInt(null));
            } else {
                check(Modifier.isPrivate(f.getModifiers()), "seen from outside: " + f);
            }
        }
        check(constants.toString().equals("[BAD -2, FULL -4, NO -3, NONE -1]"), "constants " + constants);
    }

    private static void checkConstructors() {
        Constructor<?>[] all = EvenSides.class.getDeclaredConstructors();
        check(all.length == 1 && all[0].getParameterCount() == 0
            && Modifier.isPublic(all[0].getModifiers()), "one public constructor");
        check(Modifier.isFinal(EvenSides.class.getModifiers()), "the class is final");
        check(Modifier.isPublic(EvenSides.class.getModifiers()), "the class is public");
        check(EvenSides.class.getDeclaredClasses().length <= 12, "at most twelve classes");
    }

    public static void main(String[] args) throws Exception {
        checkMethods();
        checkFields();
        checkConstructors();
        System.out.println(wrong == 0 ? "the face is as due" : wrong + " faults of the face");
        if (wrong != 0) System.exit(1);
    }
}
