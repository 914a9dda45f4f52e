import java.io.IOException;
import java.lang.reflect.Executable;
import java.lang.reflect.Field;
import java.lang.reflect.Method;
import java.lang.reflect.Modifier;
import java.nio.file.Files;
import java.nio.file.Path;
import java.util.ArrayList;
import java.util.Arrays;
import java.util.List;
import java.util.Set;
import java.util.TreeSet;
import java.util.regex.Matcher;
import java.util.regex.Pattern;
import java.util.stream.Collectors;

/** The face of the document, and the rules of LANGUAGE.md that can be seen from outside. */
public final class FaceTest {
    private static final String[] METHODS = {
        "int array(int, int, int) throws IllegalArgumentException, IllegalStateException",
        "long set(int, int, long) throws NoSuchElementException, IllegalStateException",
        "long get(int, int) throws NoSuchElementException",
        "int begin(int, int, int, int, int)"
            + " throws NoSuchElementException, IllegalArgumentException, IllegalStateException",
        "int step(int) throws IllegalArgumentException",
        "int join(int) throws NoSuchElementException, ArithmeticException",
        "long result(int) throws NoSuchElementException, UnsupportedOperationException, IllegalStateException",
        "int cancel(int) throws NoSuchElementException, IllegalStateException",
        "int job(int, int) throws NoSuchElementException, IllegalArgumentException",
        "int task(int, int, int) throws NoSuchElementException, IllegalArgumentException",
        "int worker(int, int) throws NoSuchElementException, IllegalArgumentException",
        "int grain(int) throws IllegalArgumentException",
        "int count(int) throws IllegalArgumentException",
    };
    private static final String[] FORBIDDEN = {"->", "::", "\\bsynchronized\\b", "\\bassert\\b", "\\bfinally\\b",
        "\\bstatic \\{", "\\bpackage\\b", "\\bprotected\\b", "\\bMath\\.\\w+Exact\\b", "\\bSystem\\.(?!arraycopy)"};
    private static final String THROWN = " new (IllegalState|IllegalArgument|Arithmetic|UnsupportedOperation|"
        + "NoSuchElement)Exception\\((\"\")?\\)";
    private static final Set<String> IMPORTS = Set.of("java.util.ArrayList", "java.util.List", "java.util.Arrays",
        "java.util.Iterator", "java.util.NoSuchElementException");

    private FaceTest() {
    }

    public static void main(String[] args) throws IOException {
        faceIsTheDocuments();
        nothingElseIsVisible();
        staticFieldsAreConstants();
        classesStaySmall();
        sourceKeepsToTheLanguage();
        Checks.end();
    }

    private static void faceIsTheDocuments() {
        Checks.part("face");
        Checks.dueText("the class's modifiers", Modifier.toString(ForkPool.class.getModifiers()), "public final");
        Checks.dueText("the constructors", Arrays.toString(ForkPool.class.getDeclaredConstructors()),
            "[public ForkPool(int)]");
        Set<String> got = new TreeSet<>();
        for (Method method : ForkPool.class.getDeclaredMethods()) {
            if (Modifier.isPublic(method.getModifiers()) && !Modifier.isStatic(method.getModifiers())) {
                got.add(told(method));
            }
        }
        Checks.dueText("the public methods", got.toString(), new TreeSet<>(Arrays.asList(METHODS)).toString());
    }

    private static String told(Method method) {
        String parameters = names(method.getParameterTypes());
        String thrown = names(method.getExceptionTypes());
        return method.getReturnType().getSimpleName() + " " + method.getName() + "(" + parameters + ") throws " + thrown;
    }

    private static String names(Class<?>[] classes) {
        return Arrays.stream(classes).map(Class::getSimpleName).collect(Collectors.joining(", "));
    }

    private static void nothingElseIsVisible() {
        Checks.part("rule 1");
        Set<String> publicNames = new TreeSet<>();
        for (String method : METHODS) {
            publicNames.add(method.substring(method.indexOf(' ') + 1, method.indexOf('(')));
        }
        for (Method method : ForkPool.class.getDeclaredMethods()) {
            boolean isFace = Modifier.isPublic(method.getModifiers());
            Checks.dueText(method + " is private or of the face",
                Boolean.toString(isFace || Modifier.isPrivate(method.getModifiers())), "true");
            Checks.dueText(method + " bears a public name",
                Boolean.toString(publicNames.contains(method.getName())), Boolean.toString(isFace));
        }
        for (Field field : ForkPool.class.getDeclaredFields()) {
            Checks.dueText(field + " is private", Boolean.toString(Modifier.isPrivate(field.getModifiers())), "true");
        }
        for (Class<?> inside : ForkPool.class.getDeclaredClasses()) {
            int modifiers = inside.getModifiers();
            Checks.dueText(inside + " is static and not public", Boolean.toString(Modifier.isStatic(modifiers)
                && !Modifier.isPublic(modifiers) && !Modifier.isProtected(modifiers)), "true");
        }
    }

    private static void staticFieldsAreConstants() {
        Checks.part("rule 5");
        for (Field field : ForkPool.class.getDeclaredFields()) {
            if (Modifier.isStatic(field.getModifiers())) {
                Checks.dueText(field + " is final", Boolean.toString(Modifier.isFinal(field.getModifiers())), "true");
            }
        }
    }

    private static void classesStaySmall() {
        Checks.part("rule 11");
        List<Class<?>> classes = new ArrayList<>(List.of(ForkPool.class.getDeclaredClasses()));
        classes.add(ForkPool.class);
        Checks.dueText("at most twelve classes", Boolean.toString(classes.size() <= 12), "true");
        for (Class<?> owner : classes) {
            long fields = Arrays.stream(owner.getDeclaredFields())
                .filter(field -> !Modifier.isStatic(field.getModifiers())).count();
            Checks.dueText(owner + " has at most twenty fields", Boolean.toString(fields <= 20), "true");
            takesAtMostSeven(owner.getDeclaredConstructors());
            takesAtMostSeven(owner.getDeclaredMethods());
        }
    }

    private static void takesAtMostSeven(Executable[] members) {
        for (Executable member : members) {
            Checks.dueText(member + " takes at most seven", Boolean.toString(member.getParameterCount() <= 7), "true");
        }
    }

    private static void sourceKeepsToTheLanguage() throws IOException {
        String source = Files.readString(Path.of("src/main/java/ForkPool.java"));
        String code = source.replaceAll("(?s)/\\*.*?\\*/", "").replaceAll("//.*", "").replaceAll("\"[^\"]*\"", "\"\"");
        Checks.part("rules 2 to 6 and 10");
        for (String forbidden : FORBIDDEN) {
            Checks.dueText(forbidden + " in the code", Boolean.toString(Pattern.compile(forbidden).matcher(code).find()),
                "false");
        }
        Checks.part("rule 6");
        Matcher thrown = Pattern.compile("\\bthrow\\b([^;]*);").matcher(code);
        while (thrown.find()) {
            Checks.dueText("throw" + thrown.group(1), Boolean.toString(thrown.group(1).matches(THROWN)), "true");
        }
        Checks.part("rule 4");
        Matcher imports = Pattern.compile("import ([^;]*);").matcher(code);
        while (imports.find()) {
            Checks.dueText("import " + imports.group(1), Boolean.toString(IMPORTS.contains(imports.group(1))), "true");
        }
        Checks.part("rule 3");
        for (char character : source.toCharArray()) {
            if (character > 255) {
                Checks.dueText("character of the source", Integer.toString(character), "at most 255");
            }
        }
    }
}
