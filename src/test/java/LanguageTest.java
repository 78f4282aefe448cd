import java.io.IOException;
import java.nio.file.Files;
import java.nio.file.Path;
import java.util.ArrayList;
import java.util.HashSet;
import java.util.List;
import java.util.Set;
import java.util.regex.Matcher;
import java.util.regex.Pattern;

/** The rules of ../shared/LANGUAGE.md about methods and what they call, looked at in the source's text. */
public final class LanguageTest {
    private static final Pattern CLASS = Pattern.compile("(?m)^ *(?:public |private |static |final )*class (\\w+) \\{$");
    private static final Pattern METHOD = Pattern.compile(
        "(?m)^ +((?:public |private |static )*)(?:[\\w\\[\\]]+ )?(\\w+)\\(([^()]*)\\) \\{$");
    private static final Pattern CALL = Pattern.compile("(?:(\\w+)\\.|(new) )?\\b(\\w+)\\(");
    private static final String OUTER = "RowPatterns";
    private static final int LINES = 60, PARAMETERS = 7, DEPTH = 8;

    private final String text;
    private final List<Method> methods = new ArrayList<>();

    private LanguageTest(String source) {
        text = blanked(source);
        Matcher m = METHOD.matcher(text);
        while (m.find()) {
            if (!m.group(2).matches("if|for|while|switch")) {
                methods.add(new Method(classAt(m.start()), m.group(2), m.group(1), m.group(3), bodyFrom(m.end())));
            }
        }
        for (Method method : methods) {
            addCalls(method);
        }
    }

    public static void main(String[] args) throws Exception {
        LanguageTest source = new LanguageTest(Files.readString(Path.of("src/main/java/RowPatterns.java")));
        source.readsTheSource();
        source.recursionIsPrivate();
        source.methodsAreShort();
        source.callsAreNotDeep();
        Checks.end();
    }

    /** A method as its words tell it, and those that its own words call. */
    private static final class Method {
        final String home;
        final String name;
        final boolean isPrivate;
        final int parameters;
        final String body;
        final List<Method> calls = new ArrayList<>();

        Method(String home, String name, String words, String parameters, String body) {
            this.home = home;
            this.name = name;
            this.isPrivate = words.contains("private");
            this.parameters = parameters.isBlank() ? 0 : parameters.split(",").length;
            this.body = body;
        }

        @Override
        public String toString() {
            return home + "." + name;
        }
    }

    /** The source with nothing in its comments and texts, but as many lines. */
    private static String blanked(String source) {
        return source.replaceAll("/\\*\\*.*?\\*/", "").replaceAll("//[^\n]*", "")
            .replaceAll("'(?:\\\\.|[^'\\\\])'", "0").replaceAll("\"(?:\\\\.|[^\"\\\\])*\"", "0");
    }

    private String classAt(int place) {
        String found = "";
        Matcher m = CLASS.matcher(text);
        while (m.find() && m.start() < place) {
            found = m.group(1);
        }
        return found;
    }

    private String bodyFrom(int place) {
        int open = 1;
        int end = place;
        for (; end < text.length() && open > 0; end++) {
            open += text.charAt(end) == '{' ? 1 : text.charAt(end) == '}' ? -1 : 0;
        }
        return text.substring(place, end);
    }

    private void addCalls(Method from) {
        Matcher m = CALL.matcher(from.body);
        while (m.find()) {
            String object = m.group(1);
            boolean isMade = m.group(2) != null;
            for (Method to : methods) {
                if (to.name.equals(m.group(3)) && isMade == to.name.equals(to.home) && isMeant(object, isMade, from, to)) {
                    from.calls.add(to);
                }
            }
        }
    }

    private boolean isMeant(String object, boolean isMade, Method from, Method to) {
        return object != null ? isOfClass(object, to.home)
            : isMade || to.home.equals(from.home) || to.home.equals(OUTER);
    }

    /** Whether a field or a variable of that name is of the class, anywhere in the source; or it is the class's name. */
    private boolean isOfClass(String object, String home) {
        return object.equals(home) || Pattern.compile("\\b" + home + " " + object + "\\b").matcher(text).find();
    }

    private void readsTheSource() {
        Set<String> homes = new HashSet<>();
        Set<String> names = new HashSet<>();
        for (Method method : methods) {
            homes.add(method.home);
            names.add(method.toString());
        }
        Checks.due("classes with methods", homes.size(), RowPatterns.class.getDeclaredClasses().length + 1);
        int declared = RowPatterns.class.getDeclaredMethods().length;
        for (Class<?> inside : RowPatterns.class.getDeclaredClasses()) {
            for (java.lang.reflect.Method m : inside.getDeclaredMethods()) {
                Checks.truth(m + " was read", names.contains(inside.getSimpleName() + "." + m.getName()));
                declared++;
            }
        }
        long read = methods.stream().filter(m -> !m.name.equals(m.home)).count();
        Checks.due("methods read", read, declared);
    }

    private static boolean reaches(Method from, Method to, Set<Method> seen) {
        for (Method next : from.calls) {
            if (next == to || seen.add(next) && reaches(next, to, seen)) {
                return true;
            }
        }
        return false;
    }

    private static boolean recurs(Method method) {
        return reaches(method, method, new HashSet<>());
    }

    /** The rule that the checks behind this are for; it must stand in ../shared/LANGUAGE.md word for word. */
    private static void says(String words) throws IOException {
        Path rules = Path.of("../shared/LANGUAGE.md");
        if (Files.exists(rules)) {
            Checks.truth("LANGUAGE.md says: " + words, Files.readString(rules).contains(words));
        }
    }

    private void recursionIsPrivate() throws IOException {
        says("8. Recursion: a private static method that calls itself, private methods that call one another,");
        int recurring = 0;
        for (Method method : methods) {
            if (recurs(method)) {
                recurring++;
                Checks.truth(method + " recurs and is private", method.isPrivate);
            }
        }
        Checks.truth("readers and the speller recur", recurring >= 8);
    }

    private void methodsAreShort() throws IOException {
        says("11. A method takes at most seven parameters. Methods stay short (some sixty lines),");
        for (Method method : methods) {
            Checks.truth(method + " is short", method.body.split("\n").length <= LINES);
            Checks.truth(method + "'s parameters", method.parameters <= PARAMETERS);
        }
    }

    private void callsAreNotDeep() throws IOException {
        says("calls that are no recursion go at most eight deep");
        int deepest = 0;
        for (Method method : methods) {
            deepest = Math.max(deepest, depth(method, new HashSet<>()));
        }
        Checks.truth("calls go " + deepest + " deep", deepest > 1 && deepest <= DEPTH);
    }

    private static int depth(Method method, Set<Method> open) {
        if (!open.add(method)) {
            return 0;
        }
        int below = 0;
        for (Method next : method.calls) {
            below = Math.max(below, depth(next, open));
        }
        open.remove(method);
        return below + (recurs(method) ? 0 : 1);
    }
}
