import java.lang.reflect.Method;
import java.nio.file.Files;
import java.nio.file.Path;
import java.util.ArrayList;
import java.util.Arrays;
import java.util.HashMap;
import java.util.HashSet;
import java.util.List;
import java.util.Map;
import java.util.Set;
import java.util.regex.Matcher;
import java.util.regex.Pattern;

/** Makes the calls that README.md tells, each of which must answer what stands behind it. */
public final class ReadmeTest {
    private static final Pattern CALL = Pattern.compile("(?:int (\\w+) = )?land\\.(\\w+)\\((.*?)\\);\\s*// (-?\\d+)(?::.*)?");

    public static void main(String[] args) throws Exception {
        String page = Files.readString(Path.of("README.md"));
        DarkLand land = new DarkLand();
        Map<String, Long> named = new HashMap<>();
        int calls = 0;
        for (String line : code(page)) {
            Matcher call = CALL.matcher(line);
            boolean made = line.equals("DarkLand land = new DarkLand();");
            if (!made && !line.isEmpty()) {
                Due.holds("a call with what it answers: " + line, call.matches());
            }
            if (call.matches()) {
                calls++;
                long got = answer(land, call.group(2), call.group(3), named);
                Due.is(line, got, Long.parseLong(call.group(4)));
                if (call.group(1) != null) {
                    named.put(call.group(1), got);
                }
            }
        }
        Due.holds("README.md tells calls", calls > 20);
        testsAreTold(page);
        Due.end();
    }

    private static List<String> code(String page) {
        List<String> code = new ArrayList<>();
        Matcher block = Pattern.compile("(?s)```java\n(.*?)```").matcher(page);
        while (block.find()) {
            for (String line : block.group(1).split("\n")) {
                code.add(line.trim());
            }
        }
        return code;
    }

    private static long answer(DarkLand land, String name, String told, Map<String, Long> named) throws Exception {
        String[] given = told.isEmpty() ? new String[0] : told.split(", ");
        Method method = Arrays.stream(DarkLand.class.getMethods()).filter(m -> m.getName().equals(name)).findFirst().orElseThrow();
        Object[] values = new Object[given.length];
        for (int i = 0; i < given.length; i++) {
            long v = named.containsKey(given[i]) ? named.get(given[i]) : Long.decode(given[i].replace("L", ""));
            if (method.getParameterTypes()[i] == long.class) {
                values[i] = v;
            } else {
                values[i] = Math.toIntExact(v);
            }
        }
        return ((Number) method.invoke(land, values)).longValue();
    }

    /** The tests that README.md names are there, and how all are run is told. */
    private static void testsAreTold(String page) {
        Set<String> names = new HashSet<>();
        Matcher name = Pattern.compile("\\b[A-Z]\\w+Test\\b").matcher(page);
        while (name.find()) {
            names.add(name.group());
        }
        Due.holds("tests are told", names.size() > 2);
        for (String test : names) {
            Due.holds(test + " is there", Files.exists(Path.of("src/test/java/" + test + ".java")));
        }
        Due.holds("how all are run", page.contains("bash .ci/run") && Files.isExecutable(Path.of(".ci/run")));
    }
}
