import java.io.IOException;
import java.lang.reflect.Field;
import java.lang.reflect.Method;
import java.lang.reflect.Modifier;
import java.nio.file.Files;
import java.nio.file.Path;
import java.util.ArrayList;
import java.util.List;
import java.util.regex.Matcher;
import java.util.regex.Pattern;

/** Those rules of LANGUAGE.md that can be seen in the text of the program or in its classes; FaceTest has rule 1. */
public final class LanguageTest {
    private static final Path PROGRAM = Path.of("src/main/java/ShareServer.java");

    public static void main(String[] args) throws IOException {
        Due due = new Due();
        String text = withoutComments(Files.readString(PROGRAM));
        noSuch(due, text, "no package line", "\\bpackage\\b");
        noSuch(due, text, "rule 4, only what stands there", "\\bimport (?!java\\.util\\.(ArrayList|List|Arrays|Iterator);)[^;]*");
        noSuch(due, text, "rule 2, no method reference", "::");
        noSuch(due, text, "rule 2, no lambda", "(?m)^(?!\\s*(case\\b|default\\b)).*->");
        noSuch(due, text, "rule 5, no static initialiser", "\\bstatic\\s*\\{");
        noSuch(due, text, "rule 6", "\\b(throw|throws|try|catch|finally|synchronized|assert|hashCode|getClass)\\b");
        noSuch(due, text, "rule 9, loops with an end", "while\\s*\\(\\s*true|for\\s*\\([^;)]*;\\s*;");
        noSuch(due, text, "rule 13", "\\bSystem\\.(?!arraycopy)|\\b(Thread|Random|Runtime)\\b|\\bMath\\.random\\b");
        shortMethods(due, text);
        List<Class<?>> classes = new ArrayList<>(List.of(ShareServer.class.getDeclaredClasses()));
        classes.add(ShareServer.class);
        due.is("rule 11, at most twelve classes: " + classes, classes.size() <= 12 ? 1 : 0, 1);
        for (Class<?> one : classes) {
            fewFields(due, one);
            fewParameters(due, one);
        }
        due.end();
    }

    private static String withoutComments(String text) {
        return text.replaceAll("(?s)/\\*.*?\\*/", "").replaceAll("//[^\n]*", "");
    }

    private static void noSuch(Due due, String text, String rule, String pattern) {
        Matcher found = Pattern.compile(pattern).matcher(text);
        boolean there = found.find();
        due.is(rule + (there ? ": " + found.group() : ""), there ? 1 : 0, 0);
    }

    /** A method begins with a line that ends in ") {" at the depth of a class's members, and ends with a brace at that depth. */
    private static void shortMethods(Due due, String text) {
        Matcher method = Pattern.compile("(?ms)^( {4}| {8})(?! )[^\n]*\\) \\{\n.*?^\\1\\}").matcher(text);
        int found = 0;
        while (method.find()) {
            found++;
            long lines = method.group().lines().count();
            due.is("rule 11, sixty lines a method: " + method.group().lines().findFirst().orElse(""), lines <= 60 ? 1 : 0, 1);
        }
        due.is("methods were found", found > 18 ? 1 : 0, 1);
    }

    private static void fewFields(Due due, Class<?> one) {
        int fields = 0;
        for (Field field : one.getDeclaredFields()) {
            boolean constant = Modifier.isStatic(field.getModifiers());
            fields += constant ? 0 : 1;
            due.is("rule 5, a constant: " + field, constant && !Modifier.isFinal(field.getModifiers()) ? 1 : 0, 0);
        }
        due.is("rule 11, twenty fields: " + one, fields <= 20 ? 1 : 0, 1);
    }

    private static void fewParameters(Due due, Class<?> one) {
        for (Method method : one.getDeclaredMethods()) {
            due.is("rule 11, seven parameters: " + method, method.getParameterCount() <= 7 ? 1 : 0, 1);
        }
    }
}
