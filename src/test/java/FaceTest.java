import java.lang.reflect.Constructor;
import java.lang.reflect.Field;
import java.lang.reflect.Method;
import java.lang.reflect.Modifier;
import java.util.ArrayList;
import java.util.Arrays;
import java.util.List;
import java.util.regex.MatchResult;
import java.util.regex.Pattern;
import java.util.stream.Collectors;

/** The public face, the headings ahead of its calls, and what LANGUAGE.md says of the members of the class. */
public final class FaceTest {
    private static final String DOCUMENT = "../shared/DOC.md";
    private static final String PROGRAM = "src/main/java/RegressionCourt.java";
    private static final Pattern METHOD =
            Pattern.compile("public (\\w+) (\\w+)\\(([^)]*)\\)(?:\\s+throws ([\\w, ]+))?\\s*[;{]");

    /** The lines of the document's face that declare methods. */
    private static List<String> declaredInDocument() {
        return Pages.javaExample(DOCUMENT).stream().map(String::trim)
                .filter(line -> METHOD.matcher(line).matches()).toList();
    }

    private static List<String> namesInDocument() {
        return declaredInDocument().stream().map(FaceTest::name).toList();
    }

    private static String name(String declaration) {
        return declaration.substring(0, declaration.indexOf('(')).replaceAll(".* ", "");
    }

    private static String simpleNames(Class<?>[] types) {
        return Arrays.stream(types).map(Class::getSimpleName).collect(Collectors.joining(", "));
    }

    private static String declaration(Method method) {
        String thrown = simpleNames(method.getExceptionTypes());
        return Modifier.toString(method.getModifiers()) + " " + method.getReturnType().getSimpleName() + " "
                + method.getName() + "(" + simpleNames(method.getParameterTypes()) + ")"
                + (thrown.isEmpty() ? "" : " throws " + thrown) + ";";
    }

    private static String sortedLines(List<String> lines) {
        return lines.stream().sorted().collect(Collectors.joining("\n"));
    }

    private static List<Class<?>> allClasses() {
        List<Class<?>> classes = new ArrayList<>(List.of(RegressionCourt.class));
        for (int i = 0; i < classes.size(); i++) classes.addAll(List.of(classes.get(i).getDeclaredClasses()));
        return classes;
    }

    private static void holds(String what, boolean holds) {
        Trial.same(what, String.valueOf(holds), "true");
    }

    private static void theClass() {
        Trial.sentence("the public face: public final class RegressionCourt, without a package line");
        Class<?> court = RegressionCourt.class;
        Trial.same("the class", Modifier.toString(court.getModifiers()), "public final");
        Trial.same("its package", court.getPackageName(), "");
        Trial.same("what it extends", court.getSuperclass().getName(), "java.lang.Object");
        Trial.same("what it implements", simpleNames(court.getInterfaces()), "");
    }

    private static void theConstructor() {
        Trial.sentence("the public face: public RegressionCourt()");
        Constructor<?>[] made = RegressionCourt.class.getDeclaredConstructors();
        Trial.same("the constructors", Arrays.stream(made).map(Constructor::toString).collect(Collectors.joining()),
                "public RegressionCourt()");
    }

    private static void theMethods() {
        Trial.sentence("the public face: every method with its parameters, its type and its exceptions");
        List<String> due = new ArrayList<>();
        for (String line : declaredInDocument()) due.add(line.replaceAll("\\bint \\w+(?=[,)])", "int"));
        Trial.same("how many methods the document has", String.valueOf(due.size()), "23");
        List<String> got = new ArrayList<>();
        for (Method method : RegressionCourt.class.getDeclaredMethods()) {
            if (!Modifier.isPrivate(method.getModifiers())) got.add(declaration(method));
        }
        Trial.same("the methods", sortedLines(got), sortedLines(due));
    }

    private static void theParameters() {
        Trial.sentence("the public face: the names of the parameters");
        List<String> got = new ArrayList<>();
        for (MatchResult found : METHOD.matcher(Pages.text(PROGRAM)).results().toList()) {
            got.add(found.group().replaceAll("\\s+", " ").replaceAll(" ?\\{$", ";"));
        }
        Trial.same("the methods in the source", String.join("\n", got), String.join("\n", declaredInDocument()));
    }

    private static void theHeadings() {
        Trial.sentence("ahead of the calls .. the interface says: ----");
        String text = Pages.text(PROGRAM);
        Pattern said = Pattern.compile("Ahead of the calls (.*) the interface says: (---- .*)\\.");
        List<MatchResult> headings = said.matcher(Pages.text(DOCUMENT)).results().toList();
        Trial.same("how many headings the document has", String.valueOf(headings.size()), "6");
        for (MatchResult heading : headings) {
            int from = text.indexOf("// " + heading.group(2) + "\n");
            int to = from < 0 ? -1 : text.indexOf("// ----", from + 1);
            String part = to < 0 ? "" : text.substring(from, to);
            String calls = METHOD.matcher(part).results().map(found -> "`" + found.group(2) + "`").collect(Collectors.joining(", "));
            Trial.same("the calls under " + heading.group(2), calls, heading.group(1));
        }
    }

    private static void noOtherMembers() {
        Trial.sentence("LANGUAGE.md 1: no other public, protected or package-visible member");
        for (Field field : RegressionCourt.class.getDeclaredFields()) {
            holds(field + " is private", Modifier.isPrivate(field.getModifiers()));
        }
        for (Class<?> inside : RegressionCourt.class.getDeclaredClasses()) {
            int modifiers = inside.getModifiers();
            holds(inside + " is static", Modifier.isStatic(modifiers));
            holds(inside + " is hidden", !Modifier.isPublic(modifiers) && !Modifier.isProtected(modifiers));
        }
    }

    private static void noNameTwice() {
        Trial.sentence("LANGUAGE.md 1: no private method bears the name of a public one");
        List<String> names = namesInDocument();
        for (Class<?> each : allClasses()) {
            for (Method method : each.getDeclaredMethods()) {
                boolean isPrivate = Modifier.isPrivate(method.getModifiers());
                holds(method + " has a name of its own", !isPrivate || !names.contains(method.getName()));
            }
        }
    }

    private static void noStaticState() {
        Trial.sentence("LANGUAGE.md 5: static fields are final");
        for (Class<?> each : allClasses()) {
            for (Field field : each.getDeclaredFields()) {
                int modifiers = field.getModifiers();
                holds(field + " is no static state", !Modifier.isStatic(modifiers) || Modifier.isFinal(modifiers));
            }
        }
    }

    private static void noneTooBig() {
        Trial.sentence("LANGUAGE.md 11: seven parameters, twelve classes, twenty fields beside its constants");
        holds("at most twelve classes", allClasses().size() <= 12);
        for (Class<?> each : allClasses()) {
            long fields = Arrays.stream(each.getDeclaredFields()).filter(field -> !Modifier.isStatic(field.getModifiers())).count();
            holds(each + " has at most twenty fields", fields <= 20);
            for (Method method : each.getDeclaredMethods()) {
                holds(method + " takes at most seven parameters", method.getParameterCount() <= 7);
            }
        }
    }

    public static void main(String[] args) {
        theClass();
        theConstructor();
        theMethods();
        theParameters();
        theHeadings();
        noOtherMembers();
        noNameTwice();
        noStaticState();
        noneTooBig();
        Trial.close("FaceTest");
    }
}
