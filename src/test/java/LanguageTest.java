import java.io.IOException;
import java.lang.reflect.Field;
import java.lang.reflect.Method;
import java.lang.reflect.Modifier;
import java.nio.charset.StandardCharsets;
import java.nio.file.Files;
import java.nio.file.Path;
import java.util.Arrays;
import java.util.HashSet;
import java.util.List;
import java.util.Set;
import java.util.TreeSet;
import java.util.regex.Matcher;
import java.util.regex.Pattern;

/** Rules of LANGUAGE.md that can be seen in the source and in the class. Its argument: the source's path. */
public final class LanguageTest {
    private static final String[] FACE = {
        "int hull(int,int,int)", "int luck(int,int)", "int worth(int,int,int)", "int rank(int,int)", "int say(int)",
        "int wipe()", "int fault()", "int judge(int)", "int log(int)", "int who(int,int)", "int filled(int)",
        "int could(int,int)", "int most(int,int,int)", "int stable(int,int,int)", "int leave(int,int,int,int)",
        "int voyages(int)", "int letGo(int)", "long home(int,int,int)", "int asks(int,int,int)",
        "int winter(int,int,int)", "int image(int)", "int restore(int)", "int told(int)"};
    private static final String[] CONSTANTS = {"NONE", "DROWNED", "UNKNOWN", "OUTSIDE", "STATE", "FULL", "NO", "LOST"};
    /** A package line, what rules 3 to 6 and 13 leave out, and answers made of what the machine throws. */
    private static final String[] FORBIDDEN = {"^package\\b", "\\bfinally\\b", "\\bsynchronized\\b", "\\bassert\\b",
        "::", "^(?!\\s*(case|default)\\b).*->", "\\bhashCode\\b", "\\bSystem\\.(?!arraycopy)", "Exact\\b",
        "\\bstatic \\{", "\\bRandom\\b", "\\bThread\\b", "\\bjava\\.(?!util\\.)", "\\bgetMessage\\b",
        "\\bextends \\w*Exception\\b",
        "catch \\([^)]*\\b(Throwable|Error|Exception|ArrayIndex\\w*|StringIndex\\w*|Null\\w*|Negative\\w*|ArrayStore\\w*|ClassCast\\w*)\\b"};
    private static final int MOST_LINES = 70, MOST_PARAMETERS = 7, MOST_CLASSES = 13, MOST_FIELDS = 22;
    private static final Pattern METHOD = Pattern.compile("^( +)(public |private |static )*[a-zA-Z\\[\\]]+ "
        + "([a-zA-Z]+)\\(([^)]*)\\) \\{$");

    private static int broken = 0;

    private static void check(boolean good, String rule) {
        if (!good) {
            broken++;
            System.out.println("rule broken: " + rule);
        }
    }

    private static void checkWords(List<String> lines) {
        for (int i = 0; i < lines.size(); i++) {
            String line = lines.get(i);
            for (char sign : line.toCharArray()) {
                check(sign < 128, "signs 1 to 127, line " + (i + 1));
            }
            String code = line.matches("\\s*(/\\*\\*|//|\\*).*") ? "" : line;
            for (String word : FORBIDDEN) {
                check(!Pattern.compile(word).matcher(code).find(), "no " + word + ", line " + (i + 1));
            }
        }
    }

    private static void checkMethods(List<String> lines) {
        int found = 0;
        for (int i = 0; i < lines.size(); i++) {
            Matcher m = METHOD.matcher(lines.get(i));
            if (!m.matches()) {
                continue;
            }
            found++;
            int end = lines.subList(i, lines.size()).indexOf(m.group(1) + "}");
            check(end >= 0 && end <= MOST_LINES, "a method is short: " + m.group(3));
            check(m.group(4).split(",").length <= MOST_PARAMETERS, "seven parameters at most: " + m.group(3));
        }
        check(found >= FACE.length, "the methods are found");
    }

    private static String shown(Method m) {
        StringBuilder text = new StringBuilder(m.getReturnType() + " " + m.getName() + "(");
        for (Class<?> type : m.getParameterTypes()) {
            text.append(text.charAt(text.length() - 1) == '(' ? "" : ",").append(type);
        }
        return text.append(")").toString();
    }

    private static void checkFace() {
        Class<?> face = LentNames.class;
        check(face.getModifiers() == (Modifier.PUBLIC | Modifier.FINAL), "the class is public and final");
        check(face.getDeclaredConstructors().length == 1, "one constructor");
        Set<String> open = new TreeSet<>();
        Set<String> names = new HashSet<>();
        for (Method m : face.getDeclaredMethods()) {
            if (Modifier.isPublic(m.getModifiers())) {
                open.add(shown(m));
                names.add(m.getName());
                check(!Modifier.isStatic(m.getModifiers()), "no static method in the face");
            } else {
                check(m.isSynthetic() || Modifier.isPrivate(m.getModifiers()), "private or of the face: " + m);
            }
        }
        check(open.equals(new TreeSet<>(Arrays.asList(FACE))), "the face's methods: " + open);
        Set<String> constants = new TreeSet<>();
        for (Field f : face.getDeclaredFields()) {
            if (Modifier.isPublic(f.getModifiers())) {
                constants.add(f.getName());
            } else {
                check(Modifier.isPrivate(f.getModifiers()), "private or of the face: " + f);
            }
        }
        check(constants.equals(new TreeSet<>(Arrays.asList(CONSTANTS))), "the face's constants: " + constants);
        checkClass(face, names);
        check(face.getDeclaredClasses().length < MOST_CLASSES, "some twelve classes at most");
        for (Class<?> inside : face.getDeclaredClasses()) {
            check(!Modifier.isPublic(inside.getModifiers()) && !Modifier.isProtected(inside.getModifiers()),
                "classes inside are private or package-visible: " + inside);
            checkClass(inside, names);
        }
    }

    private static void checkClass(Class<?> one, Set<String> taken) {
        int fields = 0;
        for (Field f : one.getDeclaredFields()) {
            if (Modifier.isStatic(f.getModifiers())) {
                check(Modifier.isFinal(f.getModifiers()), "static fields are final: " + f);
            } else {
                fields++;
            }
        }
        check(fields <= MOST_FIELDS, "some twenty fields at most: " + one);
        for (Method m : one.getDeclaredMethods()) {
            check(!Modifier.isPrivate(m.getModifiers()) || !taken.contains(m.getName()),
                "no private method bears the name of a public one: " + m);
        }
    }

    public static void main(String[] args) throws IOException {
        List<String> lines = Files.readAllLines(Path.of(args[0]), StandardCharsets.ISO_8859_1);
        checkWords(lines);
        checkMethods(lines);
        checkFace();
        System.out.println("LanguageTest: " + lines.size() + " lines, " + broken + " rules broken");
        if (broken != 0) {
            System.exit(1);
        }
    }
}
