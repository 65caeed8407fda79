import java.io.IOException;
import java.lang.reflect.Constructor;
import java.lang.reflect.Field;
import java.lang.reflect.Method;
import java.lang.reflect.Modifier;
import java.nio.charset.StandardCharsets;
import java.nio.file.Files;
import java.nio.file.Path;
import java.util.Arrays;
import java.util.TreeSet;
import java.util.regex.Matcher;
import java.util.regex.Pattern;

/** The public face, and what of ../shared/LANGUAGE.md can be seen from the file and its classes. */
public final class FaceTest {
    private static final Check CHECK = new Check();

    private static final String[] FACE = {
        "int feed(int, int, int, int, int)", "boolean end(int)", "int fault(int)", "int text(int)", "int rule(int)",
        "int thing(int, int)", "int gun(int, int)", "boolean law(int)", "int drives(int)", "int line(int, int)",
        "int move(int, int)", "int practise(int)", "int wind(int)", "int putOut(int)", "boolean lots(int)",
        "int years(int, long)", "int status(int)", "int undo()", "int log(int, int)", "int taker(int)",
        "int bestLine(int, int)", "int bestPeg(int, int)", "int dealt(int)", "int seen(int, int, int, boolean)",
        "int lay(int, int)", "int ask(int, int)", "int claim(int)", "int game(int, int, int, int, int)",
        "int rests(int, int, int)", "int odds(int, int)", "int shares(int, int)", "int rising(int)", "int most(int)",
        "int ahead(int)", "int image()", "int back()", "int count(int)"};

    public static void main(String[] args) throws IOException {
        constants();
        members();
        innerClasses();
        source(Files.readString(Path.of("src/main/java/BeatenAfternoon.java"), StandardCharsets.ISO_8859_1));
        CHECK.finish("FaceTest");
    }

    private static void constants() {
        CHECK.due("NONE", BeatenAfternoon.NONE, -1);
        CHECK.due("HIDDEN", BeatenAfternoon.HIDDEN, -1000000);
        TreeSet<String> seen = new TreeSet<>();
        for (Field field : BeatenAfternoon.class.getDeclaredFields()) {
            if (!Modifier.isPrivate(field.getModifiers())) {
                seen.add(field.getName());
            }
        }
        CHECK.due("visible fields", seen.toString(), "[HIDDEN, NONE]");
    }

    private static void members() {
        TreeSet<String> seen = new TreeSet<>();
        TreeSet<String> names = new TreeSet<>();
        for (Method method : BeatenAfternoon.class.getDeclaredMethods()) {
            if (!Modifier.isPrivate(method.getModifiers())) {
                seen.add(told(method));
                names.add(method.getName());
            }
        }
        CHECK.due("visible methods", seen.toString(), new TreeSet<>(Arrays.asList(FACE)).toString());
        for (Method method : BeatenAfternoon.class.getDeclaredMethods()) {
            boolean hidden = Modifier.isPrivate(method.getModifiers());
            CHECK.due("rule 1: private " + method.getName(), hidden && names.contains(method.getName()), false);
        }
        Constructor<?>[] made = BeatenAfternoon.class.getDeclaredConstructors();
        CHECK.due("constructors", made.length, 1);
        CHECK.due("it takes nothing", made[0].getParameterCount(), 0);
        CHECK.due("it is public", Modifier.isPublic(made[0].getModifiers()), true);
        CHECK.due("public final class", BeatenAfternoon.class.getModifiers(), Modifier.PUBLIC | Modifier.FINAL);
    }

    private static String told(Method method) {
        StringBuilder all = new StringBuilder(method.getReturnType().getName() + " " + method.getName() + "(");
        for (Class<?> type : method.getParameterTypes()) {
            all.append(all.charAt(all.length() - 1) == '(' ? "" : ", ").append(type.getName());
        }
        return all.append(")").toString();
    }

    private static void innerClasses() {
        Class<?>[] inner = BeatenAfternoon.class.getDeclaredClasses();
        CHECK.due("rule 11: classes", inner.length + 1 <= 12, true);
        for (Class<?> one : inner) {
            CHECK.due("rule 1: " + one.getName(), Modifier.isPrivate(one.getModifiers()) && Modifier.isStatic(one.getModifiers()), true);
            fields(one);
            parameters(one);
        }
        fields(BeatenAfternoon.class);
        parameters(BeatenAfternoon.class);
    }

    private static void fields(Class<?> one) {
        int many = 0;
        for (Field field : one.getDeclaredFields()) {
            boolean fixed = Modifier.isStatic(field.getModifiers());
            many += fixed ? 0 : 1;
            CHECK.due("rule 5: " + field, fixed && !Modifier.isFinal(field.getModifiers()), false);
        }
        CHECK.due("rule 11: fields of " + one.getName(), many <= 20, true);
    }

    private static void parameters(Class<?> one) {
        for (Method method : one.getDeclaredMethods()) {
            CHECK.due("rule 11: parameters of " + method, method.getParameterCount() <= 7, true);
        }
    }

    private static void source(String text) {
        String code = text.replaceAll("(?s)/\\*.*?\\*/", "").replaceAll("//[^\n]*", "");
        String[] ruledOut = {"\\btry\\b", "\\bcatch\\b", "\\bfinally\\b", "\\bsynchronized\\b", "\\bassert\\b", "->", "::",
            "Exact\\(", "\\bdouble\\b", "\\bfloat\\b", "\\bRandom\\b", "\\bSystem\\.(?!arraycopy)", "\\bpackage\\b",
            "static\\s*\\{", "\\.values\\(\\)", "hashCode", "toString", "@", "\\bprotected\\b", "\" *\\+|\\+ *\""};
        for (String pattern : ruledOut) {
            Matcher found = Pattern.compile(pattern).matcher(code);
            CHECK.due("LANGUAGE.md rules out " + pattern, found.find(), false);
        }
        for (int i = 0; i < text.length(); i++) {
            if (text.charAt(i) > 126) {
                CHECK.due("a sign beyond 126 at " + i, text.charAt(i), 126);
            }
        }
        Matcher imports = Pattern.compile("import ([^;]*);").matcher(code);
        while (imports.find()) {
            boolean listed = imports.group(1).equals("java.util.Arrays") || imports.group(1).equals("java.util.NoSuchElementException");
            CHECK.due("import " + imports.group(1), listed, true);
        }
        lengths(text);
    }

    /** A method starts with a line that ends in { at the depth of its class, and ends with the } below it. */
    private static void lengths(String text) {
        String[] lines = text.split("\n");
        for (int i = 0; i < lines.length; i++) {
            Matcher head = Pattern.compile("^( {4}| {8})[^ *}/].*\\) (throws \\w+ )?\\{$").matcher(lines[i]);
            if (head.find()) {
                int end = i;
                while (end < lines.length && !lines[end].equals(head.group(1) + "}")) {
                    end++;
                }
                CHECK.due("rule 11: " + lines[i].trim() + " has " + (end - i + 1) + " lines", end - i + 1 <= 60, true);
            }
        }
    }
}
