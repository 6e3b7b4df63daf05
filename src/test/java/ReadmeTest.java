import java.io.IOException;
import java.lang.reflect.InvocationTargetException;
import java.lang.reflect.Method;
import java.nio.file.Files;
import java.nio.file.Path;
import java.util.ArrayList;
import java.util.Arrays;
import java.util.List;
import java.util.regex.Matcher;
import java.util.regex.Pattern;

/** README.md tells of each call of the face, with its refusals in their order, and its example is true. */
public final class ReadmeTest {
    private static final Pattern EXCEPTION = Pattern.compile("`(\\w+Exception)`");
    private static final Pattern CALL = Pattern.compile("x\\.(\\w+)\\(([^)]*)\\);\\s*// ([^\\s:]+).*");
    private static final Pattern BYTES = Pattern.compile("for .*\"(.*)\"\\.toCharArray.*");

    public static void main(String[] args) throws IOException {
        String readme = Files.readString(Path.of("README.md"));
        callsAreTold(readme);
        boilerHouseIsMade(readme);
        exampleIsTrue(readme);
        Checks.holds("how the tests are run is told", readme.contains("## How to run its tests\n\n    .ci/run\n"));
        Checks.finish("ReadmeTest");
    }

    private static void callsAreTold(String readme) throws IOException {
        List<String> items = items(readme);
        List<String> face = FaceText.methods();
        Checks.due("calls of the document's face", face.size(), 29);
        for (String due : face) {
            String signature = FaceText.signature(due);
            String told = "";
            for (String item : items) {
                told = item.startsWith("`" + signature + "`") ? item : told;
            }
            Checks.holds("README.md tells of " + signature, !told.isEmpty());
            Checks.due("refusals of " + signature, exceptionsIn(told).toString(), FaceText.refusals(due).toString());
            Checks.holds("README.md tells what answers " + signature, told.contains("nswers"));
        }
    }

    private static List<String> items(String readme) {
        List<String> items = new ArrayList<>();
        for (String item : readme.split("\n+- |\n\n")) {
            items.add(item.replaceAll("\\s+", " "));
        }
        return items;
    }

    private static List<String> exceptionsIn(String item) {
        List<String> names = new ArrayList<>();
        Matcher m = EXCEPTION.matcher(item);
        while (m.find()) {
            names.add(m.group(1));
        }
        return names;
    }

    private static void boilerHouseIsMade(String readme) {
        Checks.holds("the constructor is told", readme.contains("`new HeatBranches()`"));
        Checks.holds("NONE is told", readme.contains("`HeatBranches.NONE`, -1,"));
    }

    private static void exampleIsTrue(String readme) {
        HeatBranches x = new HeatBranches();
        int start = readme.indexOf("```java\n");
        int end = readme.indexOf("\n```", start + 1);
        Checks.holds("there is an example", start >= 0 && end > start);
        int calls = 0;
        for (String line : readme.substring(start, end).split("\n")) {
            Matcher call = CALL.matcher(line);
            Matcher bytes = BYTES.matcher(line);
            if (call.matches()) {
                Checks.due("'" + line + "'", outcome(x, call.group(1), call.group(2)), call.group(3));
                calls++;
            } else if (bytes.matches()) {
                bytes.group(1).chars().forEach(x::append);
            } else {
                Checks.holds("'" + line + "' is known", line.startsWith("```") || line.startsWith("HeatBranches x"));
            }
        }
        Checks.holds("the example has calls", calls > 0);
    }

    private static String outcome(HeatBranches x, String name, String arguments) {
        String[] parts = arguments.isEmpty() ? new String[0] : arguments.split(", ");
        Object[] given = Arrays.stream(parts).map(ReadmeTest::argument).toArray();
        for (Method m : HeatBranches.class.getMethods()) {
            if (m.getName().equals(name) && m.getParameterCount() == given.length) {
                return outcome(x, m, given);
            }
        }
        return "there is no such method";
    }

    private static String outcome(HeatBranches x, Method m, Object[] given) {
        try {
            return String.valueOf(m.invoke(x, given));
        } catch (InvocationTargetException e) {
            return e.getCause().getClass().getSimpleName();
        } catch (IllegalAccessException e) {
            return "it is not public";
        }
    }

    private static Object argument(String written) {
        if (written.equals("true") || written.equals("false")) {
            return Boolean.valueOf(written);
        }
        return written.startsWith("'") ? (int) written.charAt(1) : Integer.parseInt(written);
    }
}
