import java.io.IOException;
import java.lang.reflect.Constructor;
import java.lang.reflect.Field;
import java.lang.reflect.Method;
import java.lang.reflect.Modifier;
import java.nio.file.Files;
import java.nio.file.Path;
import java.util.Arrays;
import java.util.List;
import java.util.TreeSet;
import java.util.regex.Matcher;
import java.util.regex.Pattern;

/** The public face is that of the document, and the source keeps to the rules that can be read off it. */
public final class FaceTest {
    private static final String[] METHODS = {
        "int name(int)", "int factor(int)", "int put(int,int,int)", "int copies(int,int)", "int evidence(int,int)",
        "int memory(int)", "int place(int,int)", "int order(int)", "int taken(int,int)", "int told(int)",
        "long total()", "long share(int,int,int)", "long greatest()", "int best(int)", "long rank(int,int)",
        "int support()", "int among(int,int)", "int drawn(long,int)", "int apart(int,int,int)", "long weight(int)",
    };
    /** What LANGUAGE.md leaves out of the language or of the library. */
    private static final String[] RULED_OUT = {
        "->", "::", "\\btry\\b", "\\bcatch\\b", "\\bfinally\\b", "\\bsynchronized\\b", "\\bassert\\b", "\\bthrow\\b",
        "\\bdouble\\b", "\\bfloat\\b", "\\bnew Random\\b", "\\bSystem\\.(?!arraycopy)", "Exact\\b", "\\bObject\\b",
        "\\bpackage\\b", "\\bstatic\\s*\\{", "while\\s*\\(true\\)", "for\\s*\\(;;",
    };
    private static final String CONSTRUCTOR = " +(public )?[A-Z][A-Za-z]*\\(.*\\) \\{";
    private static final String FIELD = "( {4}| {8})(private )?final .*;";
    private static final int MOST_LINES_OF_METHOD = 60;
    private static final int MOST_CLASSES = 12;
    private static final int MOST_FIELDS = 20;

    private final Check check = new Check();

    public static void main(String[] args) throws IOException {
        FaceTest test = new FaceTest();
        test.members();
        test.insideClasses();
        Path root = Path.of(System.getProperty("tableorders.root", "."));
        test.source(Files.readAllLines(root.resolve("src/main/java/TableOrders.java")));
        test.check.end();
    }

    private void members() {
        Class<?> face = TableOrders.class;
        check.holds("public final", Modifier.isPublic(face.getModifiers()) && Modifier.isFinal(face.getModifiers()));
        check.holds("no package", face.getPackageName().isEmpty());
        TreeSet<String> found = new TreeSet<>();
        TreeSet<String> names = new TreeSet<>();
        for (Method method : face.getDeclaredMethods()) {
            if (!Modifier.isPrivate(method.getModifiers())) {
                found.add(told(method));
                names.add(method.getName());
            }
        }
        check.holds("methods are " + found, found.equals(new TreeSet<>(Arrays.asList(METHODS))));
        for (Method method : face.getDeclaredMethods()) {
            boolean hidden = Modifier.isPrivate(method.getModifiers());
            check.holds(method + " bears a public name", !hidden || !names.contains(method.getName()));
        }
        Constructor<?>[] made = face.getDeclaredConstructors();
        check.holds("one public constructor", made.length == 1 && Modifier.isPublic(made[0].getModifiers()));
        for (Field field : face.getDeclaredFields()) {
            boolean none = field.getName().equals("NONE") && Modifier.isPublic(field.getModifiers());
            check.holds(field + " is private", none || Modifier.isPrivate(field.getModifiers()));
            boolean constant = !Modifier.isStatic(field.getModifiers()) || Modifier.isFinal(field.getModifiers());
            check.holds(field + " is no static state", constant);
        }
    }

    private static String told(Method method) {
        StringBuilder text = new StringBuilder(method.getReturnType() + " " + method.getName() + "(");
        String between = "";
        for (Class<?> type : method.getParameterTypes()) {
            text.append(between).append(type);
            between = ",";
        }
        return text.append(")").toString();
    }

    private void insideClasses() {
        Class<?>[] inside = TableOrders.class.getDeclaredClasses();
        check.holds("few classes", inside.length + 1 <= MOST_CLASSES);
        for (Class<?> each : inside) {
            check.holds(each + " is static", Modifier.isStatic(each.getModifiers()));
            check.holds(each + " is not public", !Modifier.isPublic(each.getModifiers()));
            int fields = 0;
            for (Field field : each.getDeclaredFields()) {
                fields += Modifier.isStatic(field.getModifiers()) ? 0 : 1;
            }
            check.holds(each + " has few fields", fields <= MOST_FIELDS);
        }
    }

    private void source(List<String> lines) {
        int start = 0;
        for (int i = 0; i < lines.size(); i++) {
            String line = lines.get(i);
            String code = line.replaceAll("//.*|^\\s*/?\\*.*", "");
            for (String ruledOut : RULED_OUT) {
                Matcher found = Pattern.compile(ruledOut).matcher(code);
                check.holds("line " + (i + 1) + " is without " + ruledOut, !found.find());
            }
            boolean library = !code.startsWith("import") || code.equals("import java.util.Arrays;");
            check.holds("line " + (i + 1) + " imports what is listed", library);
            if (code.matches("( {4}| {8})[A-Za-z].*\\) \\{")) {
                start = i;
            }
            boolean ofConstructor = lines.get(start).matches(CONSTRUCTOR) || code.matches(FIELD);
            check.holds("line " + (i + 1) + " makes nothing in a call", !code.matches(".*\\bnew\\b.*") || ofConstructor);
            if (code.matches("( {4}| {8})\\}")) {
                check.holds("the method at line " + (start + 1) + " is short", i - start < MOST_LINES_OF_METHOD);
                start = i;
            }
        }
    }
}
