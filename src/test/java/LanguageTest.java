import java.nio.file.Files;
import java.nio.file.Path;
import java.util.Arrays;
import java.util.List;
import java.util.regex.Matcher;
import java.util.regex.Pattern;

/** Rules of ../shared/LANGUAGE.md that the class's own text shows; run from the project's directory, as .ci/run does. */
public final class LanguageTest {
    private static final int LINES_MOST = 60;
    private static final int PARAMETERS_MOST = 7;
    /** Some twelve inside the public one. */
    private static final int CLASSES_MOST = 13;
    private static final List<String> IMPORTS = Arrays.asList("java.util.ArrayList", "java.util.Arrays",
        "java.util.Iterator", "java.util.List", "java.util.NoSuchElementException");
    private static final List<String> THROWN = Arrays.asList("IllegalStateException", "IllegalArgumentException",
        "IndexOutOfBoundsException", "ArithmeticException", "UnsupportedOperationException", "NoSuchElementException",
        "RuntimeException");
    private static final List<String> LIBRARY = Arrays.asList("System.arraycopy", "Arrays.copyOf",
        "Arrays.copyOfRange", "Arrays.fill", "Math.abs", "Math.max", "Math.min", "Math.floorDiv", "Math.floorMod",
        "Integer.compare", "Integer.bitCount", "Long.compare", "Long.bitCount");
    private static final String[] NEVER = {"->", "::", "\\bpackage\\b", "\\bfinally\\b", "\\bsynchronized\\b",
        "\\bassert\\b", "\\bvolatile\\b", "\\bnative\\b", "\\bthis\\.getClass\\b", "static \\{", "\\btry \\(",
        "while \\(true\\)", "for \\([^;]*; *;", "\\bThread\\b", "\\bRandom\\b", "\\bObject\\b", "\\bhashCode\\b",
        "\\btoString\\b", "\\[\\]\\[\\]\\[\\]", "\" \\+", "\\+ \""};

    public static void main(String[] args) throws Exception {
        String source = stripped(Files.readString(Path.of("src/main/java/PegBands.java")));
        neverStands(source);
        onlyTheLibrary(source);
        exceptions(source);
        makesOnlyAtFirst(source);
        isSmall(source);
        Check.finish();
    }

    /** The text without what remarks and written texts say; its lines stay. */
    private static String stripped(String text) {
        String code = text.replaceAll("//[^\n]*", "");
        Matcher remarks = Pattern.compile("/\\*.*?\\*/", Pattern.DOTALL).matcher(code);
        code = remarks.replaceAll(found -> found.group().replaceAll("[^\n]", ""));
        return code.replaceAll("\"[^\"\n]*\"", "\"\"").replaceAll("'[^'\n]'", "' '");
    }

    private static void neverStands(String source) {
        Check.part("Rules 1 to 3, 5, 6, 9, 10, 13: what never stands in the class");
        for (String pattern : NEVER) {
            Check.due(pattern, Pattern.compile(pattern).matcher(source).find(), false);
        }
    }

    private static void onlyTheLibrary(String source) {
        Check.part("Rule 4: the library");
        each(source, "import ([\\w.]+);", found -> Check.due(found, IMPORTS.contains(found), true));
        each(source, "\\b((?:System|Arrays|Math|Integer|Long)\\.\\w+)",
            found -> Check.due(found, LIBRARY.contains(found), true));
    }

    private static void exceptions(String source) {
        Check.part("Rule 6: exceptions; and none that the machine throws is caught");
        each(source, "throw (new \\w+\\(|\\w+;)", found -> Check.due(found,
            found.startsWith("new ") && THROWN.contains(found.substring(4, found.length() - 1)), true));
        each(source, "catch \\(([^)]*)\\)", found -> Check.due(found, found.matches(
            "(IllegalStateException|IllegalArgumentException|UnsupportedOperationException|NoSuchElementException) \\w+"),
            true));
    }

    /** The room is kept small by making everything with the object: no call makes but what it throws. */
    private static void makesOnlyAtFirst(String source) {
        Check.part("Rule 12 and the room: what is made is made with the object");
        String[] lines = source.split("\n");
        for (int i = 0; i < lines.length; i++) {
            boolean isMaker = lines[i].matches(" +(public )?[A-Z]\\w*\\(.*\\) \\{");
            int last = isHead(lines[i]) ? lastOf(lines, i) : i;
            for (int at = i; at <= last; at++) {
                boolean makes = lines[at].matches(".*\\bnew\\b.*") && !lines[at].contains("throw new");
                boolean isField = at == i && lines[at].matches(" +(private )?final .* = new .*;");
                Check.due(lines[at].trim(), !makes || isMaker || isField, true);
            }
            i = last;
        }
    }

    private static void isSmall(String source) {
        Check.part("Rules 1, 2 and 11: few classes, all private, final and static; short methods, few parameters");
        int classes = 0;
        String[] lines = source.split("\n");
        for (int i = 0; i < lines.length; i++) {
            if (lines[i].matches(".*\\b(class|enum|interface|record) \\w+.*\\{")) {
                classes++;
                Check.due(lines[i].trim(),
                    lines[i].matches("public final class PegBands \\{|    private static final class \\w+ \\{"), true);
            } else if (isHead(lines[i])) {
                Check.due(lines[i].trim() + " takes few", lines[i].split(",").length <= PARAMETERS_MOST, true);
                Check.due(lines[i].trim() + " is short", lastOf(lines, i) - i < LINES_MOST, true);
                i = lastOf(lines, i);
            }
        }
        Check.due("classes", classes <= CLASSES_MOST, true);
    }

    /** The first line of a method or constructor; only asked of lines that stand in none. */
    private static boolean isHead(String line) {
        return line.matches(" +[\\w\\[\\], ]+\\(.*\\{");
    }

    /** The line that ends a method is the first one behind its head that stands as far in as the head and is a brace. */
    private static int lastOf(String[] lines, int head) {
        String end = lines[head].replaceAll("\\S.*", "") + "}";
        int last = head;
        while (last < lines.length - 1 && !lines[last].equals(end)) {
            last++;
        }
        return last;
    }

    private interface Look {
        void at(String found);
    }

    private static void each(String source, String pattern, Look look) {
        Matcher m = Pattern.compile(pattern).matcher(source);
        while (m.find()) {
            look.at(m.group(1));
        }
    }
}
