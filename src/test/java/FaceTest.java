import java.lang.reflect.Constructor;
import java.lang.reflect.Field;
import java.lang.reflect.Method;
import java.lang.reflect.Modifier;
import java.nio.file.Files;
import java.nio.file.Path;
import java.util.ArrayList;
import java.util.List;
import java.util.Set;
import java.util.TreeSet;
import java.util.regex.Matcher;
import java.util.regex.Pattern;

/** The class has just the face that the document writes down, in its order, and no static state. */
public final class FaceTest {
    private static final Path DOCUMENT = Path.of("../shared/DOC.md");
    private static final Path SOURCE = Path.of("src/main/java/SignMasons.java");
    private static final Pattern AHEAD = Pattern.compile("Ahead of the calls (.*) the interface says: (----.*)\\.");
    private static final Pattern PUBLIC_METHOD = Pattern.compile("^    public \\w+ (\\w+)\\(");

    private static int wrong = 0;

    private static void check(boolean fine, String what) {
        if (!fine) {
            wrong++;
            System.out.println(what);
        }
    }

    /** The lines of the document's face, without the names of parameters. */
    private static Set<String> facePromised() throws Exception {
        Set<String> lines = new TreeSet<>();
        boolean inside = false;
        for (String line : Files.readAllLines(DOCUMENT)) {
            if (line.startsWith("public final class SignMasons")) {
                inside = true;
            } else if (line.startsWith("}")) {
                inside = false;
            } else if (inside) {
                lines.add(line.trim().replace(";", "").replaceAll("int \\w+([,)])", "int$1").replace(", ", ","));
            }
        }
        return lines;
    }

    private static String described(String executable, Class<?>[] thrown) {
        StringBuilder line = new StringBuilder(executable);
        for (int i = 0; i < thrown.length; i++) {
            line.append(i == 0 ? " throws " : ",").append(thrown[i].getSimpleName());
        }
        return line.toString();
    }

    private static Set<String> faceFound() {
        Set<String> lines = new TreeSet<>();
        for (Constructor<?> c : SignMasons.class.getDeclaredConstructors()) {
            if (!Modifier.isPrivate(c.getModifiers())) {
                lines.add(described(Modifier.toString(c.getModifiers()) + " SignMasons()", c.getExceptionTypes()));
            }
        }
        for (Method m : SignMasons.class.getDeclaredMethods()) {
            if (!Modifier.isPrivate(m.getModifiers()) && !m.isSynthetic()) {
                StringBuilder types = new StringBuilder();
                for (Class<?> type : m.getParameterTypes()) {
                    types.append(types.length() == 0 ? "" : ",").append(type.getSimpleName());
                }
                String start = Modifier.toString(m.getModifiers()) + " " + m.getReturnType().getSimpleName();
                lines.add(described(start + " " + m.getName() + "(" + types + ")", m.getExceptionTypes()));
            }
        }
        return lines;
    }

    /** The calls in their order, each behind the title under which the document puts it. */
    private static List<String> callsPromised() throws Exception {
        List<String> calls = new ArrayList<>();
        for (String line : Files.readAllLines(DOCUMENT)) {
            Matcher ahead = AHEAD.matcher(line);
            if (ahead.matches()) {
                for (String call : ahead.group(1).split(", ")) {
                    calls.add(ahead.group(2) + " " + call.replace("`", ""));
                }
            }
        }
        return calls;
    }

    private static List<String> callsFound() throws Exception {
        List<String> calls = new ArrayList<>();
        String title = "";
        for (String line : Files.readAllLines(SOURCE)) {
            Matcher method = PUBLIC_METHOD.matcher(line);
            if (line.startsWith("    // ----")) {
                title = line.substring("    // ".length());
            } else if (method.find()) {
                calls.add(title + " " + method.group(1));
            }
        }
        return calls;
    }

    public static void main(String[] args) throws Exception {
        Set<String> promised = facePromised();
        Set<String> found = faceFound();
        check(promised.size() == 32, "the document's face has " + promised.size() + " members, not 32");
        check(promised.equals(found), "promised: " + promised + "\nfound: " + found);
        List<String> order = callsPromised();
        check(order.size() == 31, "the document puts " + order.size() + " calls under titles, not 31");
        check(order.equals(callsFound()), "titles and calls promised: " + order + "\nfound: " + callsFound());
        int modifiers = SignMasons.class.getModifiers();
        check(Modifier.isPublic(modifiers) && Modifier.isFinal(modifiers), "the class is not public and final");
        check(SignMasons.class.getPackageName().isEmpty(), "the class is in a package");
        for (Field f : SignMasons.class.getDeclaredFields()) {
            check(Modifier.isPrivate(f.getModifiers()), "field " + f.getName() + " is not private");
            check(!Modifier.isStatic(f.getModifiers()) || Modifier.isFinal(f.getModifiers()),
                    "static field " + f.getName() + " is not final");
        }
        Set<String> faceNames = new TreeSet<>();
        for (Method m : SignMasons.class.getDeclaredMethods()) {
            if (Modifier.isPublic(m.getModifiers())) {
                faceNames.add(m.getName());
            }
        }
        for (Method m : SignMasons.class.getDeclaredMethods()) {
            check(Modifier.isPublic(m.getModifiers()) || !faceNames.contains(m.getName()),
                    "private method " + m.getName() + " bears the name of a public one");
        }
        System.out.println(wrong == 0 ? "the face is as promised" : wrong + " faults of the face");
        if (wrong != 0) {
            System.exit(1);
        }
    }
}
