import java.lang.reflect.Constructor;
import java.lang.reflect.Field;
import java.lang.reflect.Method;
import java.lang.reflect.Modifier;
import java.util.Arrays;
import java.util.HashSet;
import java.util.Set;
import java.util.TreeSet;

/** The public face is the document's, and nothing else of the class can be seen. */
public final class FaceTest {
    private static final String[] METHODS = {
        "feed(int,int,int,int,int)", "end(int)", "enter(int,int,int)", "away(int,int,boolean)", "strike(int,int)",
        "travel(int,int,int)", "lawyer(int,int)", "edition(int)", "fault(int)", "inForce(int,int)", "rule(int,int)",
        "duty(int,int,int)", "onDuty(int,int)", "plan(int,int,int)", "uneven()", "against(int,int)", "waive(int,int)",
        "call(int,int,int,int,int,int,int)", "asked(int)", "answer(int,boolean)", "told(int,int)", "barred(int,int)",
        "claim(int,int)", "line(int,int,int)", "pay(int)", "paid(int)", "count(int)"};

    public static void main(String[] args) {
        Due d = new Due();
        Class<?> face = DutyDesk.class;
        d.holds("the class is public and final", Modifier.isPublic(face.getModifiers()) && Modifier.isFinal(face.getModifiers()));
        d.due("NONE", DutyDesk.NONE, -1);
        d.due("RANGE", DutyDesk.RANGE, -2);
        d.due("FULL", DutyDesk.FULL, -3);
        d.due("STATE", DutyDesk.STATE, -4);

        Set<String> found = new TreeSet<>();
        Set<String> names = new HashSet<>();
        for (Method m : face.getDeclaredMethods()) {
            if (!Modifier.isPrivate(m.getModifiers())) {
                found.add(told(m));
                names.add(m.getName());
                d.holds(m.getName() + " answers an int", m.getReturnType() == int.class);
                d.holds(m.getName() + " is public, of the object", Modifier.isPublic(m.getModifiers()) && !Modifier.isStatic(m.getModifiers()));
            }
        }
        d.holds("the methods are the document's: " + found, found.equals(new TreeSet<>(Arrays.asList(METHODS))));

        Set<String> constants = new TreeSet<>();
        for (Field f : face.getDeclaredFields()) {
            if (!Modifier.isPrivate(f.getModifiers())) {
                constants.add(f.getName());
            }
            d.holds(f.getName() + ": static fields are final", !Modifier.isStatic(f.getModifiers()) || Modifier.isFinal(f.getModifiers()));
        }
        d.holds("the constants are the document's: " + constants,
            constants.equals(new TreeSet<>(Arrays.asList("NONE", "RANGE", "FULL", "STATE"))));

        Constructor<?>[] made = face.getDeclaredConstructors();
        d.holds("one public constructor without arguments",
            made.length == 1 && made[0].getParameterCount() == 0 && Modifier.isPublic(made[0].getModifiers()));

        for (Class<?> inside : face.getDeclaredClasses()) {
            d.holds(inside.getName() + " is static and not public",
                Modifier.isStatic(inside.getModifiers()) && !Modifier.isPublic(inside.getModifiers()));
        }
        privateNames(d, face, names);
        for (Class<?> inside : face.getDeclaredClasses()) {
            privateNames(d, inside, names);
        }
        d.finish();
    }

    private static void privateNames(Due d, Class<?> in, Set<String> names) {
        for (Method m : in.getDeclaredMethods()) {
            d.holds(in.getName() + "." + m.getName() + " bears no public name",
                !Modifier.isPrivate(m.getModifiers()) || !names.contains(m.getName()));
        }
    }

    private static String told(Method m) {
        StringBuilder b = new StringBuilder(m.getName()).append('(');
        for (Class<?> type : m.getParameterTypes()) {
            b.append(b.charAt(b.length() - 1) == '(' ? "" : ",").append(type.getName());
        }
        return b.append(')').toString();
    }
}
