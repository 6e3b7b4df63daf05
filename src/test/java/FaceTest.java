import java.io.IOException;
import java.lang.reflect.Constructor;
import java.lang.reflect.Field;
import java.lang.reflect.Method;
import java.lang.reflect.Modifier;
import java.nio.file.Files;
import java.nio.file.Path;
import java.util.Arrays;
import java.util.List;
import java.util.Set;
import java.util.TreeSet;
import java.util.regex.Pattern;

/** The public face as the document writes it, and the rules of the language that can be seen in the text. */
public final class FaceTest {
    private static final String INDEX = "IndexOutOfBoundsException";
    private static final String ARGUMENT = "IllegalArgumentException";
    private static final String STATE = "IllegalStateException";

    private static final List<String> FACE = List.of(
        "int addNode(int, int, int, int, int) " + INDEX + " " + ARGUMENT + " " + STATE,
        "int setDraw(int, int, int) " + INDEX + " " + ARGUMENT,
        "int setLeak(int, int) " + INDEX + " " + ARGUMENT,
        "int setTemperatures(int, int) " + ARGUMENT,
        "int node(int, int) " + INDEX + " " + ARGUMENT,
        "int heat(int, int) " + INDEX + " " + ARGUMENT,
        "int value(int) " + ARGUMENT,
        "int sum(int) " + ARGUMENT,
        "int addBoiler(int, int, int) " + ARGUMENT + " " + STATE,
        "int setCost(int, int) " + INDEX + " " + ARGUMENT,
        "int boiler(int, int) " + INDEX + " " + ARGUMENT,
        "int setTariff(int, int, int) " + ARGUMENT,
        "int pass(int) " + ARGUMENT + " " + STATE,
        "int setMeter(int, boolean) " + INDEX,
        "int balance(int) " + INDEX,
        "int region(int) " + INDEX,
        "int meterOf(int) " + INDEX,
        "int nextMeter(int) " + INDEX,
        "int suspects()",
        "int metersToFind()",
        "int supplyFor(int, int) " + INDEX + " " + ARGUMENT,
        "int cheapestSupply()",
        "int saves(int) " + INDEX,
        "double efficiency()",
        "int append(int) " + ARGUMENT + " " + STATE,
        "int clearText()",
        "int parse()",
        "int undo() " + STATE,
        "long digest()");

    private static final List<String> RULED_OUT = List.of("->", "::", "\\bcatch\\b", "\\btry\\b", "\\bfinally\\b",
        "\\bsynchronized\\b", "\\bassert\\b", "^\\s*(import|package)\\b", "\\bstatic\\s*\\{", "Exact\\(",
        "\\bSystem\\.(?!arraycopy)", "\\bwhile \\(true\\)", "\\bfor \\(;;\\)", "\" \\+|\\+ \"");

    public static void main(String[] args) throws IOException {
        face();
        document(Files.readString(Path.of(args[0])));
        members();
        text(Files.readAllLines(Path.of(args[0])));
        Checks.finish("FaceTest");
    }

    private static void face() {
        Set<String> publicOnes = new TreeSet<>();
        for (Method m : HeatBranches.class.getDeclaredMethods()) {
            if (!Modifier.isPrivate(m.getModifiers())) {
                Checks.due("modifiers of " + m.getName(), m.getModifiers(), Modifier.PUBLIC);
                publicOnes.add(written(m));
            }
        }
        for (String due : FACE) {
            Checks.holds(due + " is there", publicOnes.contains(due));
        }
        Checks.due("public methods", publicOnes.size(), FACE.size());
        Checks.due("NONE", HeatBranches.NONE, -1);
        Checks.due("modifiers of the class", HeatBranches.class.getModifiers(), Modifier.PUBLIC | Modifier.FINAL);
    }

    /** Names and order of arguments and exceptions, too, are those of the document's face. */
    private static void document(String program) throws IOException {
        String line = program.replaceAll("\\s+", " ");
        for (String due : FaceText.lines()) {
            String start = due.endsWith(";") && due.contains("(") ? due.substring(0, due.length() - 1) + " {" : due;
            Checks.holds("'" + due + "' is there", line.contains(start));
        }
        Checks.due("methods of the document", FaceText.methods().size(), FACE.size());
    }

    private static String written(Method m) {
        StringBuilder s = new StringBuilder();
        s.append(m.getReturnType().getSimpleName()).append(' ').append(m.getName()).append('(');
        for (Class<?> type : m.getParameterTypes()) {
            s.append(s.charAt(s.length() - 1) == '(' ? "" : ", ").append(type.getSimpleName());
        }
        s.append(')');
        Arrays.stream(m.getExceptionTypes()).forEach(e -> s.append(' ').append(e.getSimpleName()));
        return s.toString();
    }

    private static void members() {
        Set<String> publicNames = new TreeSet<>();
        for (String method : FACE) {
            publicNames.add(method.substring(method.indexOf(' ') + 1, method.indexOf('(')));
        }
        for (Field f : HeatBranches.class.getDeclaredFields()) {
            boolean none = f.getName().equals("NONE");
            Checks.holds(f + " is private", none || Modifier.isPrivate(f.getModifiers()));
            Checks.holds(f + " is no static state", !Modifier.isStatic(f.getModifiers())
                || Modifier.isFinal(f.getModifiers()));
        }
        for (Method m : HeatBranches.class.getDeclaredMethods()) {
            Checks.holds(m + " bears no public name", !Modifier.isPrivate(m.getModifiers())
                || !publicNames.contains(m.getName()));
        }
        Constructor<?>[] made = HeatBranches.class.getDeclaredConstructors();
        Checks.due("constructors", made.length, 1);
        Checks.due("the constructor", made[0].getModifiers(), Modifier.PUBLIC);
        Checks.due("its parameters", made[0].getParameterCount(), 0);
        for (Class<?> inside : HeatBranches.class.getDeclaredClasses()) {
            Checks.holds(inside + " is private and static", Modifier.isPrivate(inside.getModifiers())
                && Modifier.isStatic(inside.getModifiers()));
            for (Method m : inside.getDeclaredMethods()) {
                Checks.holds(m + " bears no public name", !publicNames.contains(m.getName()));
            }
        }
    }

    private static void text(List<String> lines) {
        for (String line : lines) {
            String code = line.replaceAll("//.*|^\\s*/?\\*.*", "");
            for (String out : RULED_OUT) {
                Checks.holds("'" + line + "' without " + out, !Pattern.compile(out).matcher(code).find());
            }
            boolean makes = code.contains("new ");
            boolean mayMake = code.contains("throw new ") || code.contains(" final ")
                || code.contains("saved[i] = new");
            Checks.holds("'" + line + "' makes nothing in a call", !makes || mayMake);
        }
    }
}
