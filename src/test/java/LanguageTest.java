import java.nio.file.Files;
import java.nio.file.Path;
import java.util.regex.Matcher;
import java.util.regex.Pattern;

/** What LANGUAGE.md forbids and a look at the words of the program can find. */
public final class LanguageTest {
    private static final String[] FORBIDDEN = {
        "\\bthrow\\b", "\\bthrows\\b", "\\btry\\b", "\\bcatch\\b", "\\bsynchronized\\b", "\\bassert\\b",
        "->", "::", "^\\s*package\\b", "^\\s*import\\b", "\\bnew\\s+[\\w<>]+\\([^;]*\\)\\s*\\{",
        "\\bstatic\\s*\\{", "\\bequals\\b", "\\bhashCode\\b", "\\btoString\\b", "Exact\\b", "\\bSystem\\.(?!arraycopy)",
        "\\bvolatile\\b", "\\btransient\\b", "\\bnative\\b", "\\bThread\\b", "\\bprotected\\b", "[^\\x00-\\x7f]",
    };
    private static final String[] FACE = {
        "node", "line", "plant", "load", "crew", "room", "kindTold", "deed", "may", "go", "run", "nodeTold",
        "plantTold", "loadTold", "lineTold", "crewTold", "fall", "falseSign", "mend", "sees", "order", "ordered",
        "when", "plan", "planned", "beside", "feed", "text", "count", "sheet", "cell", "copy", "lines", "taken",
    };

    public static void main(String[] args) throws Exception {
        String source = Files.readString(Path.of("src/main/java/DarkLand.java"));
        String code = source.replaceAll("(?s)/\\*.*?\\*/", "").replaceAll("//[^\n]*", "").replaceAll("\"[^\"\n]*\"", "\"\"");
        for (String word : FORBIDDEN) {
            Due.holds("none of " + word, !Pattern.compile(word, Pattern.MULTILINE).matcher(code).find());
        }
        for (String name : FACE) {
            Matcher said = Pattern.compile("^ +([\\w<>\\[\\] ]*)\\b" + name + "\\([^;]*\\) \\{", Pattern.MULTILINE).matcher(code);
            int times = 0;
            while (said.find()) {
                times++;
                Due.holds(name + " is public", said.group(1).startsWith("public "));
            }
            Due.is("times that " + name + " is told", times, 1);
        }
        Matcher types = Pattern.compile("\\b(class|enum|record|interface)\\b").matcher(code);
        int count = 0;
        while (types.find()) {
            count++;
        }
        Due.holds("some twelve classes", count <= 12);
        Due.holds("signs of 1 to 127 alone", source.chars().allMatch(c -> 1 <= c && c <= 127));
        libraryIsListed(code);
        methodsAreShort(code);
        classesAreSmall(DarkLand.class);
        for (Class<?> inside : DarkLand.class.getDeclaredClasses()) {
            classesAreSmall(inside);
        }
        for (java.lang.reflect.Method m : DarkLand.class.getDeclaredMethods()) {
            boolean seen = (m.getModifiers() & (java.lang.reflect.Modifier.PUBLIC | java.lang.reflect.Modifier.PRIVATE)) != 0;
            Due.holds(m.getName() + " is public or private", seen);
        }
        for (java.lang.reflect.Field f : DarkLand.class.getDeclaredFields()) {
            boolean seen = (f.getModifiers() & (java.lang.reflect.Modifier.PUBLIC | java.lang.reflect.Modifier.PRIVATE)) != 0;
            Due.holds(f.getName() + " is public or private", seen);
        }
        Due.end();
    }

    /** Rule 4: of the library's classes only these stand in the program, with these of their functions. */
    private static void libraryIsListed(String code) {
        Matcher call = Pattern.compile("\\b(Math|Integer|Long|Arrays|List|System|String|Object|Character)\\s*\\.\\s*(\\w+)").matcher(code);
        while (call.find()) {
            String called = call.group(1) + "." + call.group(2);
            Due.holds(called + " is listed", called.matches("Math\\.(min|max|abs)|System\\.arraycopy"));
        }
    }

    /** Rule 11: "some sixty lines"; in this program's form a method ends with the brace that stands as far in as its head. */
    private static void methodsAreShort(String code) {
        String head = "";
        String in = null;
        int size = 0;
        for (String line : code.split("\n")) {
            if (in == null && line.matches(" {4,8}[\\w\\[\\] ]+\\([\\w\\[\\], ]*\\) \\{")) {
                head = line.trim();
                in = line.substring(0, line.length() - line.stripLeading().length());
                size = 0;
            }
            size++;
            if (in != null && line.equals(in + "}")) {
                Due.holds(head + " is short: " + size, size <= 60);
                in = null;
            }
        }
    }

    /** Rule 11: at most seven parameters, some twenty fields beside constants. */
    private static void classesAreSmall(Class<?> c) {
        int fields = 0;
        for (java.lang.reflect.Field f : c.getDeclaredFields()) {
            fields += java.lang.reflect.Modifier.isStatic(f.getModifiers()) ? 0 : 1;
        }
        Due.holds(c.getName() + " has few fields: " + fields, fields <= 20);
        for (java.lang.reflect.Method m : c.getDeclaredMethods()) {
            Due.holds(m.getName() + " has few parameters", m.getParameterCount() <= 7);
        }
    }
}
