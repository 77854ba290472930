import java.io.IOException;
import java.nio.charset.StandardCharsets;
import java.nio.file.DirectoryStream;
import java.nio.file.Files;
import java.nio.file.Path;
import java.util.BitSet;
import java.util.regex.Matcher;
import java.util.regex.Pattern;

/**
 * Run by hand, as java src/test/java/Sentences.java: prints the document with # for what a test's remark quotes, so
 * that a sentence for which no test stands is seen; then what is quoted but stands in no document.
 */
public final class Sentences {
    private static final Pattern REMARK = Pattern.compile("/\\*\\*(.*?)\\*/", Pattern.DOTALL);
    private static final Pattern QUOTE = Pattern.compile("\"([^\"]+)\"");
    /** Shorter ones stand in many places. */
    private static final int SHORTEST = 4;

    private static String read(Path file) throws IOException {
        return Files.readString(file, StandardCharsets.UTF_8);
    }

    /** Notes where a piece stands in the document; false: nowhere. */
    private static boolean note(String piece, String document, BitSet quoted) {
        int at = document.indexOf(piece);
        for (int from = at; from >= 0; from = document.indexOf(piece, from + 1)) {
            quoted.set(from, from + piece.length());
        }
        return at >= 0;
    }

    private static void noteAll(Path test, String document, String language, BitSet quoted) throws IOException {
        Matcher remark = REMARK.matcher(read(test));
        while (remark.find()) {
            Matcher quote = QUOTE.matcher(remark.group(1).replaceAll("\\s+\\*?\\s*", " "));
            while (quote.find()) {
                for (String piece : quote.group(1).split("\\[\\.\\.\\]")) {
                    String text = piece.trim();
                    if (text.length() >= SHORTEST && !note(text, document, quoted) && !language.contains(text)) {
                        System.out.println(test.getFileName() + " quotes what stands nowhere: " + text);
                    }
                }
            }
        }
    }

    public static void main(String[] args) throws IOException {
        String document = read(Path.of("../shared/DOC.md")).replaceAll("[ \t]+", " ");
        String language = read(Path.of("../shared/LANGUAGE.md"));
        BitSet quoted = new BitSet();
        try (DirectoryStream<Path> tests = Files.newDirectoryStream(Path.of("src/test/java"), "*Test.java")) {
            for (Path test : tests) {
                noteAll(test, document, language, quoted);
            }
        }
        StringBuilder left = new StringBuilder();
        for (int i = 0; i < document.length(); i++) {
            if (!quoted.get(i)) {
                left.append(document.charAt(i));
            } else if (i == 0 || !quoted.get(i - 1)) {
                left.append('#');
            }
        }
        System.out.println(left);
    }
}
