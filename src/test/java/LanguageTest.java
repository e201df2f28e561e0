import java.nio.file.Files;
import java.nio.file.Path;
import java.util.regex.Matcher;
import java.util.regex.Pattern;

/** What LANGUAGE.md forbids and a look at the words of the program can find. */
public final class LanguageTest {
    private static final String[] FORBIDDEN = {
        "\\bthrow\\b", "\\bthrows\\b", "\\btry\\b", "\\bcatch\\b", "\\bsynchronized\\b", "\\bassert\\b",
        "->", "::", "^\\s*package\\b", "^\\s*import\\b", "\\bnew\\s+[\\w<>]+\\([^;]*\\)\\s*\\{",
        "\\bstatic\\s*\\{", "\\bequals\\b", "\\bhashCode\\b", "\\btoString\\b", "Exact\\b", "\\bSystem\\.(?!arraycopy)",
        "\\bvolatile\\b", "\\btransient\\b", "\\bnative\\b", "\\bThread\\b", "\\bprotected\\b", "[^\\x00-\\x7f]",
    };
    private static final String[] FACE = {
        "node", "line", "plant", "load", "crew", "room", "kindTold", "deed", "may", "go", "run", "nodeTold",
        "plantTold", "loadTold", "lineTold", "crewTold", "fall", "falseSign", "mend", "sees", "order", "ordered",
        "when", "plan", "planned", "beside", "feed", "text", "count", "sheet", "cell", "copy", "lines", "taken",
    };

    public static void main(String[] args) throws Exception {
        String source = Files.readString(Path.of("src/main/java/DarkLand.java"));
        String code = source.replaceAll("(?s)/\\*.*?\\*/", "").replaceAll("//[^\n]*", "").replaceAll("\"[^\"\n]*\"", "\"\"");
        for (String word : FORBIDDEN) {
            Due.holds("none of " + word, !Pattern.compile(word, Pattern.MULTILINE).matcher(code).find());
        }
        for (String name : FACE) {
            Matcher said = Pattern.compile("^ +([\\w<>\\[\\] ]*)\\b" + name + "\\([^;]*\\) \\{", Pattern.MULTILINE).matcher(code);
            int times = 0;
            while (said.find()) {
                times++;
                Due.holds(name + " is public", said.group(1).startsWith("public "));
            }
            Due.is("times that " + name + " is told", times, 1);
        }
        Matcher types = Pattern.compile("\\b(class|enum|record|interface)\\b").matcher(code);
        int count = 0;
        while (types.find()) {
            count++;
        }
        Due.holds("some twelve classes", count <= 12);
        for (java.lang.reflect.Method m : DarkLand.class.getDeclaredMethods()) {
            boolean seen = (m.getModifiers() & (java.lang.reflect.Modifier.PUBLIC | java.lang.reflect.Modifier.PRIVATE)) != 0;
            Due.holds(m.getName() + " is public or private", seen);
        }
        for (java.lang.reflect.Field f : DarkLand.class.getDeclaredFields()) {
            boolean seen = (f.getModifiers() & (java.lang.reflect.Modifier.PUBLIC | java.lang.reflect.Modifier.PRIVATE)) != 0;
            Due.holds(f.getName() + " is public or private", seen);
        }
        Due.end();
    }
}
