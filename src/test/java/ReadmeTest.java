import java.io.ByteArrayOutputStream;
import java.io.IOException;
import java.io.PrintStream;
import java.lang.reflect.Field;
import java.lang.reflect.Modifier;
import java.net.URL;
import java.net.URLClassLoader;
import java.nio.charset.StandardCharsets;
import java.nio.file.Files;
import java.nio.file.Path;
import java.util.ArrayList;
import java.util.List;
import java.util.regex.Matcher;
import java.util.regex.Pattern;
import javax.tools.ToolProvider;

/**
 * What README.md shows is so: its program prints what it says, each answer of its examples is the one behind //, and
 * its tables tell each call and each constant. Its argument: the source's path.
 */
public final class ReadmeTest {
    private static final Pattern BLOCK = Pattern.compile("```(\\w+)\n(.*?)```", Pattern.DOTALL);
    private static final Pattern PROGRAM = Pattern.compile("public final class (\\w+)");
    private static final Pattern ANSWERED = Pattern.compile("(port\\..*); +// (-?\\d+)(:.*)?");
    private static final Pattern CALL = Pattern.compile("    public ((int|long) \\w+\\(.*\\)) \\{");

    private static int rows = 0;
    private static int wrong = 0;

    /** Called by the examples, too. */
    public static void due(String call, long got, long want) {
        rows++;
        if (got != want) {
            wrong++;
            System.out.println("README.md: " + call + " answers " + got + ", not " + want);
        }
    }

    private static void check(boolean good, String what) {
        rows++;
        if (!good) {
            wrong++;
            System.out.println("README.md: " + what);
        }
    }

    /** The blocks, each as {its language, its text}. */
    private static List<String[]> blocksOf(String readme) {
        List<String[]> blocks = new ArrayList<>();
        Matcher m = BLOCK.matcher(readme);
        while (m.find()) {
            blocks.add(new String[] {m.group(1), m.group(2)});
        }
        return blocks;
    }

    /** A program that makes the calls of an example, and holds each answer against the one behind //. */
    private static String checkedExample(String name, String example) {
        StringBuilder text = new StringBuilder("public final class " + name + " {\n"
            + "    public static void main(String[] args) {\n");
        for (String line : example.split("\n")) {
            Matcher m = ANSWERED.matcher(line);
            boolean isAnswered = m.matches();
            check(isAnswered || !line.startsWith("port."), "no answer behind " + line);
            text.append(isAnswered ? "ReadmeTest.due(\"" + m.group(1).replace("\"", "\\\"") + "\", " + m.group(1) + ", "
                + m.group(2) + "L);" : line).append('\n');
        }
        return text.append("}}\n").toString();
    }

    /** Compiles a program and runs it: what it prints. */
    private static String printedBy(Path room, String name, String text) throws Exception {
        Path file = room.resolve(name + ".java");
        Files.writeString(file, text, StandardCharsets.UTF_8);
        ByteArrayOutputStream said = new ByteArrayOutputStream();
        int refused = ToolProvider.getSystemJavaCompiler().run(null, said, said, "-cp",
            System.getProperty("java.class.path"), "-d", room.toString(), file.toString());
        check(refused == 0, name + " does not compile: " + said);
        if (refused != 0) {
            return "";
        }
        PrintStream before = System.out;
        ByteArrayOutputStream printed = new ByteArrayOutputStream();
        try (URLClassLoader loader = new URLClassLoader(new URL[] {room.toUri().toURL()})) {
            System.setOut(new PrintStream(printed, true, "UTF-8"));
            loader.loadClass(name).getMethod("main", String[].class).invoke(null, (Object) new String[0]);
        } finally {
            System.setOut(before);
        }
        return printed.toString(StandardCharsets.UTF_8);
    }

    private static void checkBlocks(Path room, List<String[]> blocks) throws Exception {
        int examples = 0;
        for (int i = 0; i < blocks.size(); i++) {
            String text = blocks.get(i)[1];
            if (!blocks.get(i)[0].equals("java")) {
                continue;
            }
            Matcher program = PROGRAM.matcher(text);
            if (program.find()) {
                String printed = printedBy(room, program.group(1), text);
                boolean isTold = false;
                for (int k = i + 1; k < blocks.size() && !isTold; k++) {
                    isTold = blocks.get(k)[0].equals("text") && blocks.get(k)[1].equals(printed);
                }
                check(isTold, program.group(1) + " prints " + printed);
            } else {
                examples++;
                String name = "Example" + examples;
                System.out.print(printedBy(room, name, checkedExample(name, text)));
            }
        }
        check(examples > 0, "there are no examples");
    }

    private static void checkCalls(String readme, List<String> source) {
        int calls = 0;
        for (String line : source) {
            Matcher m = CALL.matcher(line);
            if (m.matches()) {
                calls++;
                check(readme.split(Pattern.quote("\n| `" + m.group(1) + "` | "), -1).length == 2,
                    "one row tells " + m.group(1));
            }
        }
        check(calls == 23, "all calls are looked for");
    }

    private static void checkConstants(String readme) throws IllegalAccessException {
        for (Field f : LentNames.class.getDeclaredFields()) {
            if (Modifier.isPublic(f.getModifiers())) {
                check(readme.contains("\n| `" + f.getName() + "` | " + f.get(null) + " | "), "a row tells " + f.getName());
            }
        }
    }

    private static void remove(Path room) throws IOException {
        try (var files = Files.list(room)) {
            for (Path file : files.toList()) {
                Files.delete(file);
            }
        }
        Files.delete(room);
    }

    public static void main(String[] args) throws Exception {
        String readme = Files.readString(Path.of("README.md"), StandardCharsets.UTF_8);
        Path room = Files.createTempDirectory("readme");
        try {
            checkBlocks(room, blocksOf(readme));
        } finally {
            remove(room);
        }
        checkCalls(readme, Files.readAllLines(Path.of(args[0]), StandardCharsets.ISO_8859_1));
        checkConstants(readme);
        for (String where : new String[] {"../shared/DOC.md", "../shared/LANGUAGE.md", "src/main/java/LentNames.java",
            ".ci/run", "NOTES.md"}) {
            check(readme.contains(where) && Files.exists(Path.of(where)), where + " is told, and is there");
        }
        System.out.println("ReadmeTest: " + rows + " checks, " + wrong + " not so");
        if (wrong != 0) {
            System.exit(1);
        }
    }
}
