import java.io.IOException;
import java.nio.file.Files;
import java.nio.file.Path;
import java.util.Set;
import java.util.TreeSet;
import java.util.regex.Matcher;
import java.util.regex.Pattern;

/** The source keeps to those rules of LANGUAGE.md that can be seen by its words alone. */
public final class LanguageTest {
    private static final Path SOURCE = Path.of("src/main/java/MaskBows.java");
    private static final String[] BARRED_WORDS = {
        "throw", "throws", "try", "catch", "finally", "synchronized", "assert", "import", "package", "protected",
        "volatile", "transient", "native", "goto", "var", "yield", "hashCode", "toString", "Object", "Thread",
        "Random", "File", "Exception",
    };
    private static final Set<String> LIBRARY = new TreeSet<>(Set.of(
        "Math.max", "Math.min", "Integer.bitCount", "System.arraycopy", "word.length", "word.charAt"));

    public static void main(String[] args) throws IOException {
        String source = Files.readString(SOURCE);
        String bare = withoutCommentsAndTexts(source);
        for (String word : BARRED_WORDS) {
            Due.holds("no word " + word, !Pattern.compile("\\b" + word + "\\b").matcher(bare).find());
        }
        Due.holds("no lambda", !bare.contains("->"));
        Due.holds("no method reference", !bare.contains("::"));
        Due.holds("signs 1 to 126 alone", source.chars().allMatch(c -> c > 0 && c < 127));
        Matcher library = Pattern.compile("\\b((?:[A-Z][a-z]+|word)\\.[a-z]\\w*)\\(").matcher(bare);
        while (library.find()) {
            Due.holds("the library has " + library.group(1), LIBRARY.contains(library.group(1)));
        }
        int classes = 0;
        for (Matcher m = Pattern.compile("\\b(class|interface|enum|record)\\b").matcher(bare); m.find(); ) {
            classes++;
        }
        Due.holds("at most twelve classes, there are " + classes, classes <= 12);
        checkFields();
        checkMethodLengths(source.split("\n"));
        Due.end("LanguageTest");
    }

    private static String withoutCommentsAndTexts(String source) {
        return source.replaceAll("(?s)/\\*.*?\\*/", " ").replaceAll("//[^\n]*", " ").replaceAll("\"[^\"\n]*\"", "\"\"");
    }

    private static void checkFields() {
        dueFields(MaskBows.class);
        for (Class<?> inside : MaskBows.class.getDeclaredClasses()) {
            dueFields(inside);
        }
    }

    private static void dueFields(Class<?> type) {
        int fields = 0;
        for (java.lang.reflect.Field field : type.getDeclaredFields()) {
            fields += java.lang.reflect.Modifier.isStatic(field.getModifiers()) ? 0 : 1;
        }
        Due.holds(type + " has at most twenty fields", fields <= 20);
    }

    /** A method ends with the brace that stands as far to the right as it began. */
    private static void checkMethodLengths(String[] lines) {
        for (int i = 0; i < lines.length; i++) {
            boolean isHead = lines[i].matches(" {4,8}[a-zA-Z].*\\) \\{") && !lines[i].contains(" class ");
            int end = i;
            String close = isHead ? lines[i].replaceAll("\\S.*", "") + "}" : "";
            while (isHead && end < lines.length - 1 && !lines[end].equals(close)) {
                end++;
            }
            Due.holds("a method of " + (end - i + 1) + " lines from line " + (i + 1), end - i < 60);
        }
    }
}
