import java.lang.reflect.Constructor;
import java.lang.reflect.Field;
import java.lang.reflect.Method;
import java.lang.reflect.Modifier;
import java.nio.file.Files;
import java.nio.file.Path;
import java.util.Arrays;
import java.util.Set;
import java.util.TreeSet;

/** The face is the document's and nothing more; the source keeps to the rules that can be seen from its words. */
public final class FaceTest {
    private static final String[] FACE = {
        "int row(int,int)", "int set(int,int,int)", "int drop()", "int cell(int,int)", "int feed(int)", "int clear()",
        "int pattern()", "int define()", "int part(int,int)", "int spell()", "int paper(int)", "int mode(int,int)",
        "int empties(int)", "int may(int)", "int holds(int,int)", "int first(int)", "int tries(int)",
        "int way(int,int)", "int ways(int)", "int spans(int,int)", "int fits(int,int)", "int run()",
        "int match(int,int)", "int label(int,int)", "long measure(int,int,int,int)", "int covered(int)",
        "int told(int)", "int list(int,int)", "int put(int,int,long)", "long get(int,int)",
        "int move(int,int,int,int,int)", "int lay(int,int,int,int,int)", "int judge(int,int,int,int,int)",
        "int image()", "int undo()",
    };

    public static void main(String[] args) throws Exception {
        members();
        source();
        Checks.end();
    }

    private static void members() {
        Class<?> face = RowPatterns.class;
        Checks.truth("public", Modifier.isPublic(face.getModifiers()));
        Checks.truth("final", Modifier.isFinal(face.getModifiers()));
        Set<String> methods = new TreeSet<>();
        Set<String> publicNames = new TreeSet<>();
        for (Method m : face.getDeclaredMethods()) {
            if (!Modifier.isPrivate(m.getModifiers()) && !m.isSynthetic()) {
                StringBuilder told = new StringBuilder();
                for (Class<?> p : m.getParameterTypes()) {
                    told.append(told.length() == 0 ? "" : ",").append(p.getName());
                }
                methods.add(m.getReturnType().getName() + " " + m.getName() + "(" + told + ")");
                publicNames.add(m.getName());
                Checks.truth(m.getName() + " is public", Modifier.isPublic(m.getModifiers()));
                Checks.truth(m.getName() + " is no static", !Modifier.isStatic(m.getModifiers()));
            }
        }
        Checks.due("methods", methods.toString(), new TreeSet<>(Arrays.asList(FACE)).toString());
        Set<String> fields = new TreeSet<>();
        for (Field f : face.getDeclaredFields()) {
            if (!Modifier.isPrivate(f.getModifiers())) {
                fields.add(f.getType().getName() + " " + f.getName());
            }
            Checks.truth(f.getName() + " static is final",
                !Modifier.isStatic(f.getModifiers()) || Modifier.isFinal(f.getModifiers()));
        }
        Checks.due("constants", fields.toString(), "[int BAD, int FULL, int MUCH, int NONE, int STATE, long NO]");
        Constructor<?>[] made = face.getDeclaredConstructors();
        Checks.due("constructors", made.length, 1);
        Checks.truth("public constructor", Modifier.isPublic(made[0].getModifiers()));
        for (Class<?> inside : face.getDeclaredClasses()) {
            for (Method m : inside.getDeclaredMethods()) {
                Checks.truth("the name of " + m + " is no public one", !publicNames.contains(m.getName()));
            }
            int state = 0;
            for (Field f : inside.getDeclaredFields()) {
                state += Modifier.isStatic(f.getModifiers()) ? 0 : 1;
            }
            Checks.truth("some twenty fields in " + inside, state <= 20);
        }
        Checks.truth("some twelve classes", face.getDeclaredClasses().length < 12);
        Checks.due("NONE", RowPatterns.NONE, -1);
        Checks.due("BAD", RowPatterns.BAD, -2);
        Checks.due("STATE", RowPatterns.STATE, -3);
        Checks.due("FULL", RowPatterns.FULL, -4);
        Checks.due("MUCH", RowPatterns.MUCH, -7);
        Checks.due("NO", RowPatterns.NO, Long.MIN_VALUE);
    }

    private static void source() throws Exception {
        String text = Files.readString(Path.of("src/main/java/RowPatterns.java"));
        for (String word : new String[] {"catch", "try {", "finally", "->", "::", "synchronized", "assert", "instanceof",
            "Random", "System.currentTime", "nanoTime", "String.format", "package ", "toString", "equals", "hashCode"}) {
            Checks.truth("no '" + word + "' in the source", !text.contains(word));
        }
        for (String line : text.split("\n")) {
            if (line.startsWith("import ")) {
                Checks.due("import", line, "import java.util.Arrays;");
            }
        }
    }
}
