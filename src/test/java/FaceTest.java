import java.io.IOException;
import java.lang.reflect.Constructor;
import java.lang.reflect.Field;
import java.lang.reflect.Member;
import java.lang.reflect.Method;
import java.lang.reflect.Modifier;
import java.nio.file.Files;
import java.nio.file.Path;
import java.util.Set;
import java.util.TreeSet;
import java.util.regex.Matcher;
import java.util.regex.Pattern;

/** The face as ../shared/DOC.md lists it, and what of ../shared/LANGUAGE.md a test can look at. */
public final class FaceTest {
    private static final Path SOURCE = Path.of("src/main/java/CallRounds.java");

    public static void main(String[] args) throws IOException {
        constants();
        methods();
        membersAreHidden();
        classesInside();
        words();
        methodsAreShort();
        Check.finish();
    }

    private static void constants() {
        Check.due("UNKNOWN", CallRounds.UNKNOWN, -1);
        Check.due("OUTSIDE", CallRounds.OUTSIDE, -2);
        Check.due("STATE", CallRounds.STATE, -3);
        Check.due("FULL", CallRounds.FULL, -4);
        Check.due("NONE", CallRounds.NONE, -9);
        Check.due("LOST", CallRounds.LOST, Long.MIN_VALUE);
    }

    private static void methods() throws IOException {
        Set<String> due = new TreeSet<>();
        Matcher line = Pattern.compile("(?m)^    public (int|long) (\\w+)\\(([^)]*)\\);").matcher(Files.readString(Path.of("../shared/DOC.md")));
        while (line.find()) due.add(line.group(1) + " " + line.group(2) + "(" + line.group(3).replaceAll("(\\w+) \\w+", "$1") + ")");
        Set<String> there = new TreeSet<>();
        for (Method m : CallRounds.class.getDeclaredMethods()) {
            if (!Modifier.isPublic(m.getModifiers())) continue;
            StringBuilder types = new StringBuilder();
            for (Class<?> type : m.getParameterTypes()) types.append(types.length() == 0 ? "" : ", ").append(type);
            there.add(m.getReturnType() + " " + m.getName() + "(" + types + ")");
        }
        Check.due("methods that the document lists", due.size(), 32);
        Check.isTrue("the public methods are the document's: " + there, there.equals(due));
    }

    private static void membersAreHidden() {
        Check.isTrue("final", Modifier.isFinal(CallRounds.class.getModifiers()));
        Set<String> open = new TreeSet<>();
        for (Method m : CallRounds.class.getDeclaredMethods()) if (Modifier.isPublic(m.getModifiers())) open.add(m.getName());
        for (Method m : CallRounds.class.getDeclaredMethods()) {
            hidden(m);
            if (Modifier.isPrivate(m.getModifiers())) Check.isTrue(m + " has a name of its own", !open.contains(m.getName()));
        }
        Set<String> fields = new TreeSet<>();
        for (Field f : CallRounds.class.getDeclaredFields()) {
            hidden(f);
            if (Modifier.isPublic(f.getModifiers())) fields.add(f.getName());
            if (Modifier.isStatic(f.getModifiers())) Check.isTrue(f + " is final", Modifier.isFinal(f.getModifiers()));
        }
        Check.isTrue("constants: " + fields, fields.equals(Set.of("UNKNOWN", "OUTSIDE", "STATE", "FULL", "NONE", "LOST")));
        Constructor<?>[] made = CallRounds.class.getDeclaredConstructors();
        Check.isTrue("one public constructor", made.length == 1 && Modifier.isPublic(made[0].getModifiers()) && made[0].getParameterCount() == 0);
    }

    private static void hidden(Member m) {
        Check.isTrue(m + " is public or private", Modifier.isPublic(m.getModifiers()) || Modifier.isPrivate(m.getModifiers()));
    }

    private static void classesInside() {
        Class<?>[] inside = CallRounds.class.getDeclaredClasses();
        Check.isTrue("some twelve classes", inside.length <= 12);
        for (Class<?> c : inside) {
            Check.isTrue(c + " is static", Modifier.isStatic(c.getModifiers()));
            Check.isTrue(c + " is not public", !Modifier.isPublic(c.getModifiers()) && !Modifier.isProtected(c.getModifiers()));
            int fields = 0;
            for (Field f : c.getDeclaredFields()) {
                if (!Modifier.isStatic(f.getModifiers())) fields++;
                else Check.isTrue(f + " is final", Modifier.isFinal(f.getModifiers()));
            }
            Check.isTrue(c + " has few fields", fields <= 20);
            for (Method m : c.getDeclaredMethods()) Check.isTrue(m + " takes few", m.getParameterCount() <= 7);
        }
    }

    private static void words() throws IOException {
        String code = Files.readString(SOURCE).replaceAll("(?s)/\\*.*?\\*/", "").replaceAll("//[^\n]*", "");
        for (String word : new String[] {"throw", "throws", "try", "catch", "finally", "synchronized", "assert", "package",
            "volatile", "native", "var", "Object", "Thread", "Random", "Exception"}) {
            Check.isTrue("no " + word, !Pattern.compile("\\b" + word + "\\b").matcher(code).find());
        }
        Check.isTrue("no lambda", !code.contains("->"));
        Check.isTrue("no method reference", !code.contains("::"));
        Matcher imports = Pattern.compile("import ([\\w.*]+);").matcher(code);
        while (imports.find()) Check.isTrue("import " + imports.group(1), imports.group(1).matches("java\\.util\\.(Arrays|ArrayList|List)"));
        Check.isTrue("no whole library names", !code.replaceAll("import [\\w.]+;", "").contains("java."));
        for (char sign : code.toCharArray()) if (sign > 126) Check.isTrue("signs up to 127", false);
    }

    private static void methodsAreShort() throws IOException {
        int begun = 0, at = 0;
        for (String line : Files.readAllLines(SOURCE)) {
            at++;
            if (line.matches("( {4}| {8})[\\w@<>\\[\\], ]+\\(.*\\) \\{")) begun = at;
            if (line.matches("( {4}| {8})\\}") && begun > 0) {
                Check.isTrue("short up to line " + at, at - begun < 60);
                begun = 0;
            }
        }
    }
}
