import java.lang.reflect.Constructor;
import java.lang.reflect.Field;
import java.lang.reflect.Method;
import java.lang.reflect.Modifier;
import java.util.Set;
import java.util.TreeSet;

/** The face is the document's, and nothing else can be seen (LANGUAGE.md, rule 1). */
public final class FaceTest {
    private static final Set<String> FACE = Set.of(
        "room()", "door(int,int)", "walker(int)", "deed(int,int,int)", "condition(int,int,int)",
        "event(int,int,boolean)", "timer(int,int,boolean)", "daemon(int,int)", "act(int)",
        "pace(int)", "turn()", "back()", "told(int)", "count(int)", "counter(int)", "left(int)",
        "is(int,int)", "walks(int,int)", "way(int,int)", "row(int,int)", "minutes(int)");

    public static void main(String[] args) {
        Check check = new Check();
        constants(check);
        methods(check);
        constructors(check);
        fields(check);
        classesInside(check);
        check.end();
    }

    private static void constants(Check check) {
        check.due("NONE", TurnClock.NONE, -1);
        check.due("UNKNOWN", TurnClock.UNKNOWN, -2);
        check.due("OUTSIDE", TurnClock.OUTSIDE, -3);
        check.due("STATE", TurnClock.STATE, -4);
        check.due("ROOM", TurnClock.ROOM, -5);
    }

    private static void methods(Check check) {
        Set<String> seen = new TreeSet<>();
        Set<String> names = new TreeSet<>();
        for (Method m : TurnClock.class.getDeclaredMethods()) {
            if (Modifier.isPrivate(m.getModifiers())) {
                continue;
            }
            seen.add(signature(m));
            names.add(m.getName());
            check.holds(m + " is public, of the object, and answers an int",
                Modifier.isPublic(m.getModifiers()) && !Modifier.isStatic(m.getModifiers())
                && m.getReturnType() == int.class);
        }
        check.holds("methods " + seen, seen.equals(new TreeSet<>(FACE)));
        for (Method m : TurnClock.class.getDeclaredMethods()) {
            check.holds(m + " shares no public name",
                !Modifier.isPrivate(m.getModifiers()) || !names.contains(m.getName()));
        }
    }

    private static String signature(Method m) {
        StringBuilder s = new StringBuilder(m.getName()).append('(');
        for (Class<?> c : m.getParameterTypes()) {
            s.append(s.charAt(s.length() - 1) == '(' ? "" : ",").append(c.getName());
        }
        return s.append(')').toString();
    }

    private static void constructors(Check check) {
        Constructor<?>[] made = TurnClock.class.getDeclaredConstructors();
        check.due("constructors", made.length, 1);
        check.due("its parameters", made[0].getParameterCount(), 0);
        check.holds("it is public", Modifier.isPublic(made[0].getModifiers()));
        check.holds("the class is public and final",
            Modifier.isPublic(TurnClock.class.getModifiers()) && Modifier.isFinal(TurnClock.class.getModifiers()));
    }

    private static void fields(Check check) {
        Set<String> constants = Set.of("NONE", "UNKNOWN", "OUTSIDE", "STATE", "ROOM");
        for (Field f : TurnClock.class.getDeclaredFields()) {
            boolean isPublic = Modifier.isPublic(f.getModifiers());
            check.holds(f + " is a constant of the face or private",
                isPublic == constants.contains(f.getName()) && (isPublic || Modifier.isPrivate(f.getModifiers())));
            check.holds(f + " is final, if static",
                !Modifier.isStatic(f.getModifiers()) || Modifier.isFinal(f.getModifiers()));
        }
    }

    private static void classesInside(Check check) {
        for (Class<?> c : TurnClock.class.getDeclaredClasses()) {
            int seen = c.getModifiers();
            check.holds(c + " is static, and private or of the package",
                Modifier.isStatic(seen) && !Modifier.isPublic(seen) && !Modifier.isProtected(seen));
        }
    }
}
