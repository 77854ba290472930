import java.io.IOException;
import java.lang.reflect.Constructor;
import java.lang.reflect.Field;
import java.lang.reflect.Method;
import java.lang.reflect.Modifier;
import java.nio.charset.StandardCharsets;
import java.nio.file.Files;
import java.nio.file.Path;
import java.util.ArrayList;
import java.util.List;
import java.util.Set;
import java.util.TreeSet;
import java.util.regex.Matcher;
import java.util.regex.Pattern;

/**
 * The class shows what the document tells under "The public face", and nothing else. Its argument: the source's path;
 * the document stands where .ci/run finds it.
 */
public final class FaceTest {
    private static final Path DOCUMENT = Path.of("../shared/DOC.md");
    private static final Pattern METHOD = Pattern.compile("public (int|long) (\\w+)\\(([^)]*)\\);");
    private static final Pattern CONSTANTS = Pattern.compile("public static final (int|long) (.*);");
    private static final Pattern HEADING = Pattern.compile("Ahead of the calls (.*) the interface says: (---- .*)\\.");

    private static int rows = 0;
    private static int wrong = 0;

    private static void check(boolean good, String what) {
        rows++;
        if (!good) {
            wrong++;
            System.out.println("not so: " + what);
        }
    }

    private static List<String> faceOf(String document) {
        List<String> face = new ArrayList<>();
        int from = document.indexOf("```java", document.indexOf("## The public face"));
        for (String line : document.substring(from, document.indexOf("\n```\n", from)).split("\n")) {
            face.add(line.trim());
        }
        return face;
    }

    /** "public static final int NONE = -6, [..]": their types, their numbers, and no others. */
    private static void checkConstants(List<String> face) throws IllegalAccessException {
        Set<String> told = new TreeSet<>();
        for (String line : face) {
            Matcher m = CONSTANTS.matcher(line);
            if (m.matches()) {
                for (String constant : m.group(2).split(", ")) {
                    told.add(m.group(1) + " " + constant.replaceAll("(\\d)L$", "$1"));
                }
            }
        }
        Set<String> shown = new TreeSet<>();
        for (Field f : LentNames.class.getDeclaredFields()) {
            if (Modifier.isPublic(f.getModifiers())) {
                check(Modifier.isStatic(f.getModifiers()) && Modifier.isFinal(f.getModifiers()), "a constant: " + f);
                shown.add(f.getType() + " " + f.getName() + " = " + f.get(null));
            } else {
                check(Modifier.isPrivate(f.getModifiers()), "private or of the face: " + f);
            }
        }
        check(told.size() == 8, "eight constants are told: " + told);
        check(shown.equals(told), "the constants are " + told + ", not " + shown);
    }

    /** "public int hull(int hull, int what, int v);" and all behind it: their types and parameters, and no others. */
    private static void checkMethods(List<String> face, List<String> source) {
        Set<String> told = new TreeSet<>();
        for (String line : face) {
            Matcher m = METHOD.matcher(line);
            if (m.matches()) {
                told.add(m.group(1) + " " + m.group(2) + "(" + m.group(3).replaceAll("(\\w+) \\w+", "$1") + ")");
                check(source.contains("    " + line.replace(";", " {")), "written as the document says: " + line);
            }
        }
        Set<String> shown = new TreeSet<>();
        for (Method m : LentNames.class.getDeclaredMethods()) {
            if (!Modifier.isPublic(m.getModifiers())) {
                check(m.isSynthetic() || Modifier.isPrivate(m.getModifiers()), "private or of the face: " + m);
                continue;
            }
            check(m.getModifiers() == Modifier.PUBLIC, "public, and no more: " + m);
            check(m.getExceptionTypes().length == 0, "no exceptions: " + m);
            shown.add(shownAs(m));
        }
        check(told.size() == 23, "23 methods are told: " + told);
        check(shown.equals(told), "the methods are " + told + ", not " + shown);
    }

    private static String shownAs(Method m) {
        List<String> types = new ArrayList<>();
        for (Class<?> type : m.getParameterTypes()) {
            types.add(type.getName());
        }
        return m.getReturnType() + " " + m.getName() + "(" + String.join(", ", types) + ")";
    }

    /** "public final class LentNames" and "public LentNames();" */
    private static void checkClass(List<String> face) {
        Class<?> all = LentNames.class;
        check(face.contains("public final class LentNames {"), "the class is told");
        check(all.getModifiers() == (Modifier.PUBLIC | Modifier.FINAL), "the class is public and final");
        check(all.getPackageName().isEmpty() && all.getEnclosingClass() == null, "it stands in no package");
        check(all.getSuperclass() == Object.class && all.getInterfaces().length == 0, "it is of no other class");
        Constructor<?>[] makers = all.getDeclaredConstructors();
        check(face.contains("public LentNames();") && makers.length == 1, "one constructor");
        for (Constructor<?> maker : makers) {
            check(Modifier.isPublic(maker.getModifiers()) && maker.getParameterCount() == 0
                && maker.getExceptionTypes().length == 0, "it is public and takes nothing");
        }
        for (Class<?> inside : all.getDeclaredClasses()) {
            check(!Modifier.isPublic(inside.getModifiers()) && !Modifier.isProtected(inside.getModifiers()),
                "classes inside are private or package-visible: " + inside);
        }
    }

    /** "Ahead of the calls `hull`, [..] the interface says: ---- 1 hulls, names.", and so on. */
    private static void checkHeadings(String document, List<String> source) {
        Matcher m = HEADING.matcher(document);
        int calls = 0;
        while (m.find()) {
            for (String call : m.group(1).split(", ")) {
                calls++;
                check(headingOf(call.replace("`", ""), source).equals("// " + m.group(2)), m.group(2) + ": " + call);
            }
        }
        check(calls == 23, "each call stands behind a heading");
    }

    private static String headingOf(String call, List<String> source) {
        String heading = "";
        for (String line : source) {
            if (line.trim().startsWith("// ----")) {
                heading = line.trim();
            }
            if (line.matches("    public \\w+ " + call + "\\(.*")) {
                return heading;
            }
        }
        return "";
    }

    public static void main(String[] args) throws IOException, IllegalAccessException {
        String document = Files.readString(DOCUMENT, StandardCharsets.UTF_8);
        List<String> source = Files.readAllLines(Path.of(args[0]), StandardCharsets.ISO_8859_1);
        List<String> face = faceOf(document);
        checkClass(face);
        checkConstants(face);
        checkMethods(face, source);
        checkHeadings(document, source);
        System.out.println("FaceTest: " + rows + " checks, " + wrong + " not so");
        if (wrong != 0) {
            System.exit(1);
        }
    }
}
