import java.lang.reflect.Constructor;
import java.lang.reflect.Field;
import java.lang.reflect.Method;
import java.lang.reflect.Modifier;
import java.util.HashSet;
import java.util.Set;
import java.util.TreeSet;

/** The public face is the document's, and nothing else can be seen from outside (rule 1 of LANGUAGE.md). */
final class FaceTest {
    private static final String[] FACE = {
        "int oar(int,int)", "int boat(int,int,int,int)", "int ill(int,int)", "int sit(int,int,int)",
        "int seat(int,int)", "int about(int,int)", "int race(int,int,int)", "int unrace()", "int group(int)",
        "long strength(int,int)", "long between(int,int,int)", "long misfit(int,int)", "int sure(int,int)",
        "int crew(int,int,int)", "int water(int,int,int)", "int feed(long,int)", "int rule()",
        "int ruled(int,int)", "int may(int,int)", "int day(int)", "int out(int,int)", "int look(int,int)",
        "int broke(int,int)", "int outing(int,int)", "int heat(int,int)", "int near(int)", "int clashes()",
        "int shift(int)", "int trailer(int,int)", "int rack(int)", "int count(int)",
    };

    public static void main(String[] args) {
        Check check = new Check();
        constants(check);
        members(check);
        check.end("FaceTest");
    }

    private static void constants(Check check) {
        check.due("NONE", DawnEights.NONE, -1);
        check.due("BAD", DawnEights.BAD, -2);
        check.due("STATE", DawnEights.STATE, -3);
        check.due("FULL", DawnEights.FULL, -4);
        check.due("NO", DawnEights.NO, Long.MIN_VALUE);
    }

    private static void members(Check check) {
        Class<?> face = DawnEights.class;
        check.isTrue("public final", Modifier.isPublic(face.getModifiers()) && Modifier.isFinal(face.getModifiers()));
        Set<String> open = new TreeSet<>();
        Set<String> names = new HashSet<>();
        for (Method m : face.getDeclaredMethods()) {
            if (!Modifier.isPrivate(m.getModifiers())) {
                check.isTrue(m + " is public", Modifier.isPublic(m.getModifiers()));
                StringBuilder text = new StringBuilder(m.getReturnType() + " " + m.getName() + "(");
                for (int i = 0; i < m.getParameterCount(); i++) {
                    text.append(i == 0 ? "" : ",").append(m.getParameterTypes()[i]);
                }
                open.add(text.append(")").toString());
                names.add(m.getName());
            }
        }
        check.isTrue("the methods are " + open, open.equals(new TreeSet<>(Set.of(FACE))));
        for (Method m : face.getDeclaredMethods()) {
            check.isTrue(m + " bears a public one's name",
                Modifier.isPublic(m.getModifiers()) || !names.contains(m.getName()));
        }
        Set<String> fields = new TreeSet<>();
        for (Field f : face.getDeclaredFields()) {
            if (!Modifier.isPrivate(f.getModifiers())) {
                fields.add(f.getName());
            }
        }
        check.isTrue("the constants are " + fields, fields.equals(Set.of("NONE", "BAD", "STATE", "FULL", "NO")));
        Constructor<?>[] made = face.getDeclaredConstructors();
        check.isTrue("one public constructor",
            made.length == 1 && made[0].getParameterCount() == 0 && Modifier.isPublic(made[0].getModifiers()));
    }
}
