import java.io.IOException;
import java.lang.reflect.Constructor;
import java.lang.reflect.Field;
import java.lang.reflect.Method;
import java.lang.reflect.Modifier;
import java.nio.file.Files;
import java.nio.file.Path;
import java.util.Set;
import java.util.TreeSet;
import java.util.regex.Matcher;
import java.util.regex.Pattern;

/** The face as the document has it, and those rules of LANGUAGE.md that a look at the file can tell. */
public final class FaceTest {
    private static final Set<String> FACE = new TreeSet<>(Set.of(
        "int write(int,long)", "int wipe()", "int fault()", "int lay()", "int person(int,int)", "int said(int,int)",
        "int deed(int,int)", "int kind(int,int)", "int cry(int)", "int warn(int,int)", "int called(int,int)",
        "int greet(int,int)", "int shortCall(int,int)", "int allShort(int)", "int apart(int,int,int)", "int hear(int)",
        "int forget()", "long odds(int,int)", "int meant()", "int years(int,int,int)", "int then(int,int,int,int)",
        "int keep()", "int back()", "int count(int)"));
    private static final String[] FORBIDDEN = {"throw", "throws", "try", "catch", "finally", "synchronized", "assert", "import",
        "package", "protected", "->", "::", "Exact", "Random", "Thread", "System\\.(?!arraycopy)"};

    public static void main(String[] args) throws IOException {
        methods();
        constants();
        members();
        nestedMethodNames();
        source();
        Check.end();
    }

    private static void methods() {
        Set<String> found = new TreeSet<>();
        for (Method m : DeedNames.class.getDeclaredMethods()) {
            if (!Modifier.isPrivate(m.getModifiers())) {
                StringBuilder types = new StringBuilder();
                for (Class<?> type : m.getParameterTypes()) {
                    types.append(types.length() == 0 ? "" : ",").append(type.getName());
                }
                found.add(m.getReturnType().getName() + " " + m.getName() + "(" + types + ")");
                Check.due(m.getName() + " is public alone", m.getModifiers(), Modifier.PUBLIC);
            }
        }
        Check.due("the face is " + found, found.equals(FACE) ? 1 : 0, 1);
        Constructor<?>[] made = DeedNames.class.getDeclaredConstructors();
        Check.due("constructors", made.length, 1);
        Check.due("constructor's parameters", made[0].getParameterCount(), 0);
        Check.due("constructor is public", made[0].getModifiers(), Modifier.PUBLIC);
        Check.due("class", DeedNames.class.getModifiers(), Modifier.PUBLIC | Modifier.FINAL);
    }

    private static void constants() {
        Check.due("BAD", DeedNames.BAD, -1);
        Check.due("NO", DeedNames.NO, -2);
        Check.due("FULL", DeedNames.FULL, -3);
        Check.due("NONE", DeedNames.NONE, -4);
    }

    private static void members() {
        int open = 0;
        for (Field f : DeedNames.class.getDeclaredFields()) {
            open += Modifier.isPrivate(f.getModifiers()) ? 0 : 1;
            boolean fixed = !Modifier.isStatic(f.getModifiers()) || Modifier.isFinal(f.getModifiers());
            Check.due(f.getName() + " is final if static", fixed ? 1 : 0, 1);
        }
        Check.due("open fields", open, 4);
        Check.due("no more than twelve classes", DeedNames.class.getDeclaredClasses().length < 12 ? 1 : 0, 1);
        for (Class<?> c : DeedNames.class.getDeclaredClasses()) {
            Check.due(c.getName() + " is static", Modifier.isStatic(c.getModifiers()) ? 1 : 0, 1);
            Check.due(c.getName() + " is not public", Modifier.isPublic(c.getModifiers()) ? 1 : 0, 0);
        }
    }

    private static void nestedMethodNames() {
        for (Class<?> c : DeedNames.class.getDeclaredClasses()) {
            for (Method m : c.getDeclaredMethods()) {
                for (String face : FACE) {
                    Check.due(c.getName() + "." + m.getName() + " bears a name of the face", face.contains(" " + m.getName() + "(") ? 1 : 0, 0);
                }
                Check.due(m.getName() + " has at most seven parameters", m.getParameterCount() <= 7 ? 1 : 0, 1);
            }
        }
    }

    private static void source() throws IOException {
        String text = Files.readString(Path.of("src/main/java/DeedNames.java"));
        String code = text.replaceAll("(?s)/\\*.*?\\*/", "").replaceAll("//[^\n]*", "");
        for (String word : FORBIDDEN) {
            String edge = Character.isLetter(word.charAt(0)) && !word.equals("Exact") ? "\\b" : "";
            Matcher m = Pattern.compile(edge + word + (word.endsWith(")") ? "" : edge)).matcher(code);
            Check.due("'" + word + "' in the source", m.find() ? 1 : 0, 0);
        }
        for (int k = 0; k < text.length(); k++) {
            if (text.charAt(k) > 126) {
                Check.due("sign at " + k, text.charAt(k), 126);
            }
        }
    }
}
