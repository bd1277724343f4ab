import java.lang.reflect.Constructor;
import java.lang.reflect.Field;
import java.lang.reflect.Method;
import java.lang.reflect.Modifier;
import java.util.Set;
import java.util.TreeSet;

/** The face as the document has it, and no more of it: LANGUAGE.md, rule 1. */
public final class FaceTest {
    private static final Set<String> FACE = new TreeSet<>(Set.of(
        "int write(int,long)", "int wipe()", "int fault()", "int lay()", "int person(int,int)", "int said(int,int)",
        "int deed(int,int)", "int kind(int,int)", "int cry(int)", "int warn(int,int)", "int called(int,int)",
        "int greet(int,int)", "int shortCall(int,int)", "int allShort(int)", "int apart(int,int,int)", "int hear(int)",
        "int forget()", "long odds(int,int)", "int meant()", "int years(int,int,int)", "int then(int,int,int,int)",
        "int keep()", "int back()", "int count(int)"));

    public static void main(String[] args) {
        methods();
        constants();
        members();
        namesOfTheFace();
        Check.end();
    }

    private static void methods() {
        Set<String> found = new TreeSet<>();
        for (Method m : DeedNames.class.getDeclaredMethods()) {
            if (!Modifier.isPrivate(m.getModifiers())) {
                StringBuilder types = new StringBuilder();
                for (Class<?> type : m.getParameterTypes()) {
                    types.append(types.length() == 0 ? "" : ",").append(type.getName());
                }
                found.add(m.getReturnType().getName() + " " + m.getName() + "(" + types + ")");
                Check.due(m.getName() + " is public alone", m.getModifiers(), Modifier.PUBLIC);
            }
        }
        Check.due("the face is " + found, found.equals(FACE) ? 1 : 0, 1);
        Constructor<?>[] made = DeedNames.class.getDeclaredConstructors();
        Check.due("constructors", made.length, 1);
        Check.due("constructor's parameters", made[0].getParameterCount(), 0);
        Check.due("constructor is public", made[0].getModifiers(), Modifier.PUBLIC);
        Check.due("class", DeedNames.class.getModifiers(), Modifier.PUBLIC | Modifier.FINAL);
    }

    private static void constants() {
        Check.due("BAD", DeedNames.BAD, -1);
        Check.due("NO", DeedNames.NO, -2);
        Check.due("FULL", DeedNames.FULL, -3);
        Check.due("NONE", DeedNames.NONE, -4);
    }

    private static void members() {
        int open = 0;
        for (Field f : DeedNames.class.getDeclaredFields()) {
            open += Modifier.isPrivate(f.getModifiers()) ? 0 : 1;
            boolean fixed = !Modifier.isStatic(f.getModifiers()) || Modifier.isFinal(f.getModifiers());
            Check.due(f.getName() + " is final if static", fixed ? 1 : 0, 1);
        }
        Check.due("open fields", open, 4);
        Check.due("no more than twelve classes", DeedNames.class.getDeclaredClasses().length < 12 ? 1 : 0, 1);
        for (Class<?> c : DeedNames.class.getDeclaredClasses()) {
            Check.due(c.getName() + " is static", Modifier.isStatic(c.getModifiers()) ? 1 : 0, 1);
            Check.due(c.getName() + " is not public", Modifier.isPublic(c.getModifiers()) ? 1 : 0, 0);
        }
    }

    private static void namesOfTheFace() {
        for (Method m : DeedNames.class.getDeclaredMethods()) {
            if (!Modifier.isPublic(m.getModifiers())) {
                bearsNoNameOfTheFace(m);
            }
        }
        for (Class<?> c : DeedNames.class.getDeclaredClasses()) {
            for (Method m : c.getDeclaredMethods()) {
                bearsNoNameOfTheFace(m);
            }
        }
    }

    private static void bearsNoNameOfTheFace(Method m) {
        for (String face : FACE) {
            boolean same = face.contains(" " + m.getName() + "(");
            Check.due(m + " bears a name of the face", same ? 1 : 0, 0);
        }
    }
}
