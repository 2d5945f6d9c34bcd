import java.io.IOException;
import java.lang.reflect.Field;
import java.lang.reflect.Modifier;
import java.nio.charset.StandardCharsets;
import java.nio.file.Files;
import java.nio.file.Path;
import java.util.regex.Matcher;
import java.util.regex.Pattern;

/** The rules of ../shared/LANGUAGE.md that can be seen in the program's text and in its compiled classes. */
public final class LanguageTest {
    private static final Path PROGRAM = Path.of("src/main/java/PennyMore.java");
    private static final Pattern OWN_TEXT = Pattern.compile("(?s)/\\*.*?\\*/|//[^\n]*|\"(\\\\.|[^\"\\\\])*\"|'(\\\\.|[^'\\\\])'");
    private static final Pattern METHOD = Pattern.compile(
        "(?m)^ {4,8}(?:public |private |static |final )*[A-Za-z\\[\\]]+ ?[A-Za-z]*\\(([^)]*)\\) \\{$");
    private static int wrong = 0;

    private static void rule(int number, String code, String never) {
        Matcher m = Pattern.compile(never).matcher(code);
        while (m.find()) {
            fails(number, code, m.start(), m.group().trim());
        }
    }

    private static void fails(int number, String code, int at, String what) {
        wrong++;
        System.out.println("rule " + number + ", line " + code.substring(0, at).split("\n", -1).length + ": " + what);
    }

    /** Comments and texts as blanks, so that what they say is no code. */
    private static String codeOf(String program) {
        StringBuilder code = new StringBuilder(program);
        Matcher m = OWN_TEXT.matcher(program);
        while (m.find()) {
            for (int i = m.start(); i < m.end(); i++) {
                if (code.charAt(i) != '\n') {
                    code.setCharAt(i, ' ');
                }
            }
        }
        return code.toString();
    }

    private static int count(String code, String pattern) {
        int n = 0;
        for (Matcher m = Pattern.compile(pattern).matcher(code); m.find();) {
            n++;
        }
        return n;
    }

    private static int linesBehind(String code, int begin) {
        int open = 0;
        int lines = 1;
        for (int i = begin; i < code.length(); i++) {
            char sign = code.charAt(i);
            lines += sign == '\n' ? 1 : 0;
            open += sign == '{' ? 1 : sign == '}' ? -1 : 0;
            if (sign == '}' && open == 0) {
                return lines;
            }
        }
        return lines;
    }

    private static void methods(String code) {
        Matcher m = METHOD.matcher(code);
        int seen = 0;
        while (m.find()) {
            seen++;
            if (m.group(1).split(",").length > 7) {
                fails(11, code, m.start(), "more than seven parameters");
            }
            if (linesBehind(code, m.start()) > 60) {
                fails(11, code, m.start(), "a method of more than sixty lines");
            }
        }
        if (seen < 41) {
            fails(11, code, 0, "only " + seen + " methods were seen");
        }
    }

    private static void broken(int number, String what) {
        wrong++;
        System.out.println("rule " + number + ": " + what);
    }

    /** Fields of a class: what is static is a constant of a number, a sign or a text, or a row of numbers. */
    private static void fieldsOf(Class<?> of) {
        int fields = 0;
        for (Field f : of.getDeclaredFields()) {
            Class<?> type = f.getType();
            Class<?> item = type.isArray() ? type.getComponentType() : type;
            if (!Modifier.isStatic(f.getModifiers())) {
                fields++;
            } else if (!Modifier.isFinal(f.getModifiers()) || !item.isPrimitive() && type != String.class) {
                broken(5, of.getName() + "." + f.getName() + " is no constant");
            }
        }
        if (fields > 20) {
            broken(11, of.getName() + " has " + fields + " fields");
        }
    }

    private static void classes() {
        fieldsOf(PennyMore.class);
        for (Class<?> inside : PennyMore.class.getDeclaredClasses()) {
            int is = inside.getModifiers();
            if (!Modifier.isStatic(is)) {
                broken(2, inside.getName() + " is not static");
            }
            if (Modifier.isPublic(is) || Modifier.isProtected(is)) {
                broken(1, inside.getName() + " is shown");
            }
            fieldsOf(inside);
        }
    }

    public static void main(String[] args) throws IOException {
        String program = Files.readString(PROGRAM, StandardCharsets.ISO_8859_1);
        String code = codeOf(program);
        rule(1, code, "\\bpackage\\b|\\bprotected\\b");
        rule(2, code, "->|::|\\bnew \\w+\\([^)]*\\) \\{");
        rule(3, program, "[^\\x09\\x0a\\x20-\\x7e]");
        rule(4, code, "\\bimport (?!java\\.util\\.(ArrayList|List|Arrays|Iterator);)|\\bjava\\.(?!util\\.)|\\w+Exact\\(");
        rule(5, code, "\\bstatic (?!final|class|abstract|[\\w\\[\\]]+ \\w+\\()[^;{]*[;{]|\\bstatic \\{");
        rule(6, code, "\\b(throw|throws|try|catch|finally|synchronized|assert)\\b");
        rule(9, code, "\\bwhile \\(true\\)|\\bfor \\(;;\\)");
        rule(13, code, "\\b(System\\.(?!arraycopy)|Thread|Random|Runtime|native|volatile)");
        if (count(code, "\\bpublic (final )?(class|interface|enum|record)\\b") != 1) {
            fails(1, code, 0, "one public class is due");
        }
        if (count(code, "\\b(class|interface|enum|record) [A-Z]") > 12) {
            fails(11, code, 0, "more than twelve classes");
        }
        methods(code);
        classes();
        System.out.println(wrong == 0 ? "the rules are kept" : wrong + " breaks of the rules");
        if (wrong != 0) {
            System.exit(1);
        }
    }
}
