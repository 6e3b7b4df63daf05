import java.io.IOException;
import java.util.ArrayList;
import java.util.LinkedHashMap;
import java.util.List;
import java.util.Map;
import java.util.Set;

/** Rules of the language that can be counted in the compiled class, whatever its text looks like. */
public final class LanguageTest {
    private static final int MOST_CLASSES = 12;
    private static final int MOST_FIELDS = 20;
    private static final int MOST_PARAMETERS = 7;
    private static final int MOST_LINES = 60;
    private static final int DEEPEST = 8;
    private static final int INVOKEDYNAMIC = 0xba;
    private static final int MONITORENTER = 0xc2;

    private static final String REFUSAL = "java/lang/(IndexOutOfBounds|IllegalArgument|IllegalState)Exception";
    private static final String LIBRARY = "java/lang/Object.<init>\\(\\)V"
        + "|" + REFUSAL + ".<init>\\(Ljava/lang/String;\\)V"
        + "|java/lang/Math.(max|min)\\(II\\)I|java/lang/Math.abs\\(I\\)I|java/lang/Integer.bitCount\\(I\\)I"
        + "|java/lang/System.arraycopy\\(Ljava/lang/Object;ILjava/lang/Object;II\\)V";

    /** Each method by its class, name and type, with those of the program that it calls. */
    private static final Map<String, List<String>> CALLS = new LinkedHashMap<>();

    public static void main(String[] args) throws IOException {
        Class<?>[] inside = HeatBranches.class.getDeclaredClasses();
        Checks.holds("at most 12 classes", inside.length + 1 <= MOST_CLASSES);
        classFile(new ClassFile(HeatBranches.class));
        for (Class<?> c : inside) {
            Checks.due("classes inside " + c.getName(), c.getDeclaredClasses().length, 0);
            classFile(new ClassFile(c));
        }
        for (String method : CALLS.keySet()) {
            List<String> way = deepest(method, new ArrayList<>());
            Checks.holds("calls at most eight deep, no recursion: " + way, way.size() <= DEEPEST);
        }
        Checks.finish("LanguageTest");
    }

    private static void classFile(ClassFile file) {
        int ownFields = 0;
        for (ClassFile.Member field : file.fields) {
            boolean constant = (field.flags & ClassFile.STATIC) != 0;
            ownFields += constant ? 0 : 1;
            Checks.holds("constants alone are static: " + field.name, !constant
                || (field.flags & ClassFile.FINAL) != 0 && Set.of("I", "J").contains(field.type));
        }
        Checks.holds("at most 20 fields in " + file.name, ownFields <= MOST_FIELDS);
        for (ClassFile.Member method : file.methods) {
            String name = file.name + "." + method.name + method.type;
            shape(name, method);
            CALLS.put(name, calledByIt(name, method));
            made(name, method);
        }
    }

    private static void shape(String name, ClassFile.Member method) {
        Checks.holds(name + " is no static initialiser", !method.name.equals("<clinit>"));
        Checks.holds(name + " catches nothing", method.handlers == 0);
        Checks.holds(name + " has no lambda and joins no texts", !method.codes.contains(INVOKEDYNAMIC));
        Checks.holds(name + " is not synchronized", !method.codes.contains(MONITORENTER));
        Checks.holds(name + " has at most 60 lines", method.lastLine - method.firstLine < MOST_LINES);
        Checks.holds(name + " has at most 7 parameters", parameters(method.type) <= MOST_PARAMETERS);
    }

    private static int parameters(String type) {
        String inside = type.substring(1, type.indexOf(')'));
        return inside.replaceAll("\\[*(L[^;]*;|[A-Z])", "p").length();
    }

    private static List<String> calledByIt(String name, ClassFile.Member method) {
        List<String> own = new ArrayList<>();
        for (String called : method.calls) {
            if (called.startsWith("HeatBranches")) {
                own.add(called);
            } else {
                Checks.holds(called + " is of the library that is listed, in " + name, called.matches(LIBRARY));
            }
        }
        return own;
    }

    /** What a run makes is counted: rows are made in constructors, a call makes at most its refusal. */
    private static void made(String name, ClassFile.Member method) {
        boolean constructor = method.name.equals("<init>");
        for (String made : method.made) {
            boolean refusal = made.matches(REFUSAL);
            Checks.holds(name + " makes " + made, constructor != refusal);
        }
    }

    /** The longest way down from a method; a method that is met again makes it endless, so it is cut there. */
    private static List<String> deepest(String method, List<String> above) {
        List<String> way = new ArrayList<>(above);
        way.add(method);
        if (above.contains(method) || way.size() > DEEPEST) {
            while (way.size() <= DEEPEST) {
                way.add("and so on");
            }
            return way;
        }
        List<String> longest = way;
        for (String called : CALLS.getOrDefault(method, List.of())) {
            List<String> below = deepest(called, way);
            longest = below.size() > longest.size() ? below : longest;
        }
        return longest;
    }
}
