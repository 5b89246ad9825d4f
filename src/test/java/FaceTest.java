import java.lang.reflect.Constructor;
import java.lang.reflect.Field;
import java.lang.reflect.Method;
import java.lang.reflect.Modifier;
import java.util.HashSet;
import java.util.Set;
import java.util.TreeSet;

/** The public face as the document has it, and nothing else that can be seen from outside. */
public final class FaceTest {
    private static final String[] FACE = {
        "int feed(int,int,int,int,int)", "int text(int)", "int fault(int)", "int named(int,int)", "int look(int,int)",
        "int pace(int,int)", "long law(int,int,int,int)", "int run(int,int,int)", "int split(int,int,int)",
        "boolean race(int,int)", "int go(int)", "int now(int)", "boolean paced(int)", "int shift(int)", "int undo()",
        "boolean sack(int)", "int rain(boolean)", "int best(int,int)", "int paces(int,int,int)",
        "int quick(int,int,int)", "int safe(int,int,int,int)", "int held(int,int)", "int weighed(int,int,int,int)",
        "int flat(int,int)", "int alike(int,int,int)", "int trained(int,int,int,int)", "int note(int,int,int,int)",
        "int strike(int)", "boolean known(int)", "int fits(int,int)", "int wins(int,int,int,int)",
        "int beats(int,int,int,int)", "int led(int,int,int,int)", "int rests(int,int)", "int rest(int,int,int)",
        "int corner(int,int,int)", "long down(int,int,int,int)", "int errors(int,int)", "int rule()", "int keep()",
        "int back()", "int count(int)"};

    public static void main(String[] args) {
        Set<String> seen = new TreeSet<>();
        Set<String> names = new HashSet<>();
        for (Method m : SackRace.class.getDeclaredMethods()) {
            if (Modifier.isPublic(m.getModifiers())) {
                seen.add(tell(m));
                names.add(m.getName());
            } else {
                Check.due(m + " is private", Modifier.isPrivate(m.getModifiers()), true);
            }
        }
        Check.due("the face has all methods and no other: " + seen, seen.equals(new TreeSet<>(Set.of(FACE))), true);
        noNameTwice(SackRace.class, names);
        for (Field f : SackRace.class.getDeclaredFields()) {
            Check.due(f + " is private", Modifier.isPrivate(f.getModifiers()), !f.getName().equals("NONE"));
        }
        Check.due("NONE", SackRace.NONE, -1);
        for (Constructor<?> c : SackRace.class.getDeclaredConstructors()) {
            Check.due("constructor", c.getParameterCount() == 0 && Modifier.isPublic(c.getModifiers()), true);
        }
        Check.due("final", Modifier.isFinal(SackRace.class.getModifiers()), true);
        for (Class<?> c : SackRace.class.getDeclaredClasses()) {
            Check.due(c + " is static", Modifier.isStatic(c.getModifiers()), true);
            Check.due(c + " is public", Modifier.isPublic(c.getModifiers()), false);
            noNameTwice(c, names);
        }
        Check.finish("FaceTest");
    }

    private static void noNameTwice(Class<?> c, Set<String> names) {
        for (Method m : c.getDeclaredMethods()) {
            boolean ofTheFace = c == SackRace.class && Modifier.isPublic(m.getModifiers());
            Check.due(c + "." + m.getName() + " bears a name of the face", !ofTheFace && names.contains(m.getName()), false);
            Check.due(m + " takes at most seven", m.getParameterCount() <= 7, true);
        }
        for (Field f : c.getDeclaredFields()) {
            Check.due(f + " is static and not final",
                Modifier.isStatic(f.getModifiers()) && !Modifier.isFinal(f.getModifiers()), false);
        }
    }

    private static String tell(Method m) {
        StringBuilder s = new StringBuilder(m.getReturnType() + " " + m.getName() + "(");
        for (Class<?> p : m.getParameterTypes()) {
            s.append(s.charAt(s.length() - 1) == '(' ? "" : ",").append(p);
        }
        return s.append(")").toString();
    }
}
