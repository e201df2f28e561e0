import java.util.ArrayList;
import java.util.List;
import java.util.Random;

/** Promises 28 to 30, and what texts come to (24). */
public final class TextsTest {
    private static final int BAD = DarkLand.BAD, FULL = DarkLand.FULL;
    private static int read = 0;
    private static DarkLand reader;

    public static void main(String[] args) {
        feeding();
        texts();
        faults();
        nesting();
        whatTextsComeTo();
        textsByChance();
        counts();
        Due.end();
    }

    private static void feeding() {
        DarkLand x = new DarkLand();
        Due.is("feed(1, 0)", x.feed(1, 0), BAD);
        Due.is("feed(1, 9)", x.feed(1, 9), BAD);
        Due.is("feed(1, -1)", x.feed(1, -1), BAD);
        // "when 1;" as 3 and 4 bytes, with more bytes ahead that don't come
        Due.is("feed", x.feed(0xfff0776865L, 3), 3);
        Due.is("feed", x.feed(0x7fL << 56 | 0x6e2031L << 8 | 0x3bL, 4), 7);
        Due.is("text()", x.text(), 1);
        for (int i = 1; i <= 8; i++) {
            Due.is("feed of " + i, x.feed(-1L, i), i * (i + 1) / 2);
        }
        for (int i = 0; i < 15; i++) {
            Due.is("feed", x.feed(-1L, 8), 44 + 8 * i);
        }
        Due.is("count(9)", x.count(9), 156);
        Due.is("feed of 5 over", x.feed(0, 5), FULL);
        Due.is("feed of 9", x.feed(0, 9), BAD);
        Due.is("count(9)", x.count(9), 156);
        Due.is("feed of 4", x.feed(0, 4), 160);
        Due.is("feed of 1 over", x.feed(0, 1), FULL);
        Due.is("text()", x.text(), -100);
        Due.is("count(9)", x.count(9), 0);
    }

    private static void texts() {
        DarkLand x = new DarkLand();
        Due.is("text() of nothing", x.text(), -100);
        Due.is("text() of nothing", x.count(8), 1);
        for (int i = 1; i < 6; i++) {
            Due.is("a fault", Tape.read(x, "when"), -104);
            Due.is("text", Tape.read(x, "when " + i + ";"), i);
            Due.is("count(8)", x.count(8), i + 1);
        }
        Due.is("full", Tape.read(x, "when 6;"), FULL);
        Due.is("the tape stays", x.count(9), 7);
        Due.is("full, ahead of a fault", Tape.read(x, "!"), FULL);
        Due.is("the tape stays", x.count(9), 8);
        x.node(0);
        x.room(0, 0);
        for (int i = 1; i < 6; i++) {
            Due.is("when(0, " + i + ")", x.when(0, i), i);
        }
        String whole = "when" + " ".repeat(80) + "minute" + "\n".repeat(69) + ";";
        DarkLand y = new DarkLand();
        Due.is("a text of 160", Tape.read(y, whole), 1);
        Due.is("all blanks", Tape.read(y, " ".repeat(160)), -260);
        Due.is("too early by one", Tape.read(y, whole.replace(';', ' ')), -260);
    }

    /** What text() answers; an object takes but five texts and 512 calls. */
    private static void isRead(String text, int fault) {
        if (reader == null || read >= 5) {
            reader = new DarkLand();
            read = 0;
        }
        int got = Tape.read(reader, text);
        read++;
        if (fault >= 0) {
            Due.is("text() of " + text, got, -100 - fault);
        } else {
            Due.holds("text() of " + text + " is one, not " + got, got > 0);
        }
    }

    private static void faults() {
        isRead("when minute;", -1);
        isRead("  when\nminute ; ", -1);
        isRead("when minute", 11);
        isRead("when minute  ", 13);
        isRead("minute;", 0);
        isRead("  ;", 2);
        isRead("when;", 4);
        isRead("when when;", 5);
        isRead("whenminute;", 0);
        isRead("When minute;", 0);
        isRead("when Minute;", 5);
        isRead("when minutes;", 5);
        isRead("when minut;", 5);
        isRead("when m;", 5);
        isRead("when minute;;", 12);
        isRead("when minute; minute", 13);
        isRead("when minute; #", 13);
        isRead("when 9999;", -1);
        isRead("when 10000;", 5);
        isRead("when 00000;", 5);
        isRead("when 0001;", -1);
        isRead("when 1 2;", 7);
        isRead("when 12minute;", 7);
        isRead("when minute2;", 11);
        isRead("when 1 # 2;", 7);
        isRead("when 1 # 99999;", 7);
        isRead("when 99999 # 2;", 5);
        isRead("when 1\t;", 6);
        isRead("when 1\r;", 6);
        isRead("when 1" + (char) 0 + ";", 6);
        isRead("when " + (char) 233 + ";", 5);
        isRead("when 1" + (char) 187 + ";", 6);
        isRead("when (1" + (char) 233 + ";", 7);
        isRead("when (1" + (char) 128 + ");", 7);
        isRead("when 1" + (char) 127 + ";", 6);
        isRead("when 1" + (char) 255 + ";", 6);
        isRead("when 1 < 2 < 3;", 11);
        isRead("when 1 = 2 < 3;", 11);
        isRead("when (1 < 2) < 3;", -1);
        isRead("when 1 < not 2;", 9);
        isRead("when 1 + not 2;", 9);
        isRead("when - not 2;", 7);
        isRead("when not;", 8);
        isRead("when not not not 1 < 2;", -1);
        isRead("when 1 not 2;", 7);
        isRead("when 1 and;", 10);
        isRead("when 1 or or 1;", 10);
        isRead("when 1 and or 1;", 11);
        isRead("when and 1;", 5);
        isRead("when + 1;", 5);
        isRead("when 1 + + 1;", 9);
        isRead("when 1 - - 1;", -1);
        isRead("when 1 * - 1;", -1);
        isRead("when 1 - * 1;", 9);
        isRead("when < 1;", 5);
        isRead("when 1 <;", 8);
        isRead("when 1 <= 2;", 8);
        isRead("when ();", 6);
        isRead("when (1;", 7);
        isRead("when (1));", 8);
        isRead("when 1);", 6);
        isRead("when (1", 7);
        isRead("when (when 1);", 6);
        isRead("when lit swing;", 9);
        isRead("when lit and not swing or volts = held - falls * minute;", -1);
        isRead("when 1 or not 2 and - ( not 3 ) < 4 ;", -1);
        isRead("when a;", 5);
        isRead("when or;", 5);
        isRead("when not 1 and not not 0;", -1);
        isRead("when [1];", 5);
        isRead("when 1 / 2;", 7);
        isRead("when 1 > 2;", 7);
        isRead("when `;", 5);
        isRead("when {;", 5);
        isRead("when :;", 5);
    }

    private static void nesting() {
        isRead("when (((((1)))));", -1);
        isRead("when ((((((1))))));", 10);
        isRead("when not not not not not 1;", -1);
        isRead("when not not not not not not 1;", 25);
        isRead("when - - - - - 1;", -1);
        isRead("when -----1-1;", -1);
        isRead("when ------1;", 10);
        isRead("when not (- (not 1));", -1);
        isRead("when not (- (not (1)));", 17);
        isRead("when not (- (not - 1));", 17);
        isRead("when not (- (not 1 - 1));", -1);
        isRead("when (((((1 - 1 - 1)))));", -1);
        isRead("when (((((- 1)))));", 10);
        isRead("when (((((1 + - 1)))));", 14);
        isRead("when (((((not 1)))));", 10);
        isRead("when (((((1))))) + (((((2)))));", -1);
        isRead("when -----1 + -----1;", -1);
        isRead("when not not not not - 1 + - 1;", -1);
        isRead("when not not not not - - 1;", 23);
        isRead("when not not not not not 1 and not 1;", -1);
        isRead("when not not not not not 1 < - 1;", 29);
        isRead("when not not not not - 1 < - 1;", -1);
        isRead("when not not not not - 1 < - - 1;", 29);
        isRead("when ((((not 1 and not 1))));", -1);
        isRead("when ((((not 1 = (1)))));", 17);
        isRead("when ((((- 1 + (1)))));", -1);
        isRead("when ((((- (1)))));", 11);
        isRead("when ((((((", 10);
    }

    private static void whatTextsComeTo() {
        comesTo("when 7;", 7);
        comesTo("when - 7;", -7);
        comesTo("when - - 7;", 7);
        comesTo("when 7 - 3 - 2;", 2);
        comesTo("when 7 - (3 - 2);", 6);
        comesTo("when 2 + 3 * 4;", 14);
        comesTo("when 2 * 3 + 4;", 10);
        comesTo("when - 2 * 3 - - 4;", -2);
        comesTo("when -2 + 3;", 1);
        comesTo("when 1 < 2;", 1);
        comesTo("when 2 < 2;", 0);
        comesTo("when 3 < 2;", 0);
        comesTo("when - 3 < 2;", 1);
        comesTo("when 2 = 2;", 1);
        comesTo("when 2 = 3;", 0);
        comesTo("when 1 + 1 = 4 - 2;", 1);
        comesTo("when 2 and 4;", 1);
        comesTo("when 2 and 0;", 0);
        comesTo("when 0 and 2;", 0);
        comesTo("when 2 or 4;", 1);
        comesTo("when 0 or 4;", 1);
        comesTo("when 0 or 0;", 0);
        comesTo("when 1 or 1 and 0;", 1);
        comesTo("when (1 or 1) and 0;", 0);
        comesTo("when 0 and 0 or 1;", 1);
        comesTo("when not 0;", 1);
        comesTo("when not 5;", 0);
        comesTo("when not not 5;", 1);
        comesTo("when not 1 < 0;", 1);
        comesTo("when not 1 = 1 or 1;", 1);
        comesTo("when not 0 and 0;", 0);
        comesTo("when - (2 < 3);", -1);
        comesTo("when 9999 * 9999 * 9999;", 9999 * 9999 * 9999);
        comesTo("when 9999 * 9999 * 9999 * 9999;", 9999 * 9999 * 9999 * 9999);
        comesTo("when -(8192 * 8192 * 32) < 0;", 1);
        comesTo("when 8192 * 8192 * 32;", Integer.MIN_VALUE);
        comesTo("when -(8192 * 8192 * 32);", Integer.MIN_VALUE);
        comesTo("when 8192 * 8192 * 32 - 1;", Integer.MAX_VALUE);
        comesTo("when 8192 * 8192 * 32 < 8192 * 8192 * 32 - 1;", 1);
        comesTo("when 8192*8192*64;", 0);
        comesTo("when 1+(1+(1+(1+(1+1))));", 6);
        comesTo("when 0 or 1 and 2 < 3 + 4 * (0 or 1 and 2 < 3 + 4 * (0 or 1 and 2 < 3 + 4 * (0 or 1)));", 1);
        comesTo("when minute;", 3);
        comesTo("when held;", 3);
        comesTo("when lit;", 1);
        comesTo("when falls;", 0);
        comesTo("when volts;", -10);
        comesTo("when swing;", 0);
        comesTo("when lit and 4 < held ;", 0);
    }

    private static void comesTo(String text, int due) {
        DarkLand x = new DarkLand();
        x.node(0);
        x.plant(1, 0, 10, 10);
        x.room(0, 0);
        x.deed(2, 0);
        x.run(3);
        Due.is("text() of " + text, Tape.read(x, text), 1);
        Due.is(text, x.when(0, 1), due);
    }

    /** Texts by chance against a reader that keeps but what is open. */
    private static void textsByChance() {
        int fine = 0;
        for (long seed = 0; seed < 40000; seed++) {
            String text = new Chance(new Random(seed)).text();
            int fault = Stands.fault(text);
            isRead(text, fault);
            if (fault < 0) {
                fine++;
                DarkLand x = new DarkLand();
                x.node(0);
                x.room(0, 1);
                x.run(2);
                for (int what = 0; what < 4; what++) {
                    x.falseSign(0, 0, what, 3 * what - 4);
                }
                Tape.read(x, text);
                int due = new Model.Says(text).value(name -> "minute lit swing volts held falls".indexOf(name) == 0 ? 2
                    : name.equals("lit") ? -4 : name.equals("swing") ? -1 : name.equals("volts") ? 2 : name.equals("held") ? 5 : 0);
                Due.is("when of " + text, x.when(0, 1), due);
            }
        }
        System.out.println("texts without a fault " + fine);
        Due.holds("many texts are fine", fine > 5000);
    }

    /** Makes texts that are mostly as they should be. */
    private static final class Chance {
        private static final String[] ONES = {"minute", "lit", "swing", "volts", "held", "falls", "0", "1", "17", "9999"};
        private static final String[] BINARY = {"+", "-", "*", "<", "=", "and", "or"};
        private static final String[] ANY = {"when", "or", "and", "not", "(", ")", ";", "+", "-", "*", "<", "=", "lit",
            "7", "12345", "x", "#", "minutes"};
        private final Random chance;

        Chance(Random chance) {
            this.chance = chance;
        }

        private String of(String[] list) {
            return list[chance.nextInt(list.length)];
        }

        String text() {
            List<String> tokens = new ArrayList<>();
            tokens.add("when");
            part(tokens, 0);
            tokens.add(";");
            if (chance.nextInt(3) == 0) {
                int at = chance.nextInt(tokens.size() + 1);
                if (at < tokens.size() && chance.nextBoolean()) {
                    tokens.set(at, of(ANY));
                } else {
                    tokens.add(at, of(ANY));
                }
            }
            if (chance.nextInt(20) == 0) {
                tokens.remove(chance.nextInt(tokens.size()));
            }
            StringBuilder text = new StringBuilder();
            for (String token : tokens) {
                text.append(token).append(chance.nextInt(4) == 0 ? "\n " : chance.nextInt(12) == 0 ? "" : " ");
            }
            return text.length() > 160 ? "when 1;" : text.toString();
        }

        private void part(List<String> tokens, int depth) {
            int more = chance.nextInt(depth > 3 ? 2 : 3);
            for (int i = 0; i <= more; i++) {
                if (i > 0) {
                    tokens.add(of(BINARY));
                }
                String last = tokens.get(tokens.size() - 1);
                boolean mayNot = last.equals("when") || last.equals("and") || last.equals("or") || last.equals("not") || last.equals("(");
                for (int k = 0; k < 6 && mayNot && chance.nextInt(4) == 0; k++) {
                    tokens.add("not");
                }
                for (int k = 0; k < 6 && chance.nextInt(6) == 0; k++) {
                    tokens.add("-");
                }
                if (depth < 6 && chance.nextInt(3) == 0) {
                    tokens.add("(");
                    part(tokens, depth + 1);
                    tokens.add(")");
                } else {
                    tokens.add(of(ONES));
                }
            }
        }
    }

    /** Goes through a text token by token, knowing only what may come next and what is open. */
    private static final class Stands {
        private static final String NAMES = " minute lit swing volts held falls ";

        static int fault(String text) {
            List<int[]> outer = new ArrayList<>();
            int[] now = new int[3]; // nots, minuses, compared, of the innermost ( or of the text
            int state = 0; // 0 when, 1 an E may start, 2 a SUM may start, 3 behind a ONE, 4 behind the ;
            int i = 0;
            while (i < text.length()) {
                char c = text.charAt(i);
                if (c == ' ' || c == '\n') {
                    i++;
                    continue;
                }
                int end = i + 1;
                if (c >= 'a' && c <= 'z') {
                    while (end < text.length() && text.charAt(end) >= 'a' && text.charAt(end) <= 'z') {
                        end++;
                    }
                } else if (c >= '0' && c <= '9') {
                    while (end < text.length() && text.charAt(end) >= '0' && text.charAt(end) <= '9') {
                        end++;
                    }
                }
                String t = text.substring(i, end);
                int open = now[0] + now[1] + outer.stream().mapToInt(o -> o[0] + o[1] + 1).sum();
                boolean one = c >= '0' && c <= '9' ? t.length() <= 4 : NAMES.contains(" " + t + " ");
                if (state == 0 && t.equals("when")) {
                    state = 1;
                } else if (state == 1 && t.equals("not") && open < 5) {
                    now[0]++;
                } else if ((state == 1 || state == 2) && t.equals("-") && open < 5) {
                    now[1]++;
                    state = 2;
                } else if ((state == 1 || state == 2) && t.equals("(") && open < 5) {
                    outer.add(now);
                    now = new int[3];
                    state = 1;
                } else if ((state == 1 || state == 2) && one) {
                    now[1] = 0;
                    state = 3;
                } else if (state == 3 && (t.equals("+") || t.equals("-") || t.equals("*"))) {
                    state = 2;
                } else if (state == 3 && (t.equals("<") || t.equals("=")) && now[2] == 0) {
                    now[2] = 1;
                    state = 2;
                } else if (state == 3 && (t.equals("and") || t.equals("or"))) {
                    now = new int[3];
                    state = 1;
                } else if (state == 3 && t.equals(")") && !outer.isEmpty()) {
                    now = outer.remove(outer.size() - 1);
                    now[1] = 0;
                } else if (state == 3 && t.equals(";") && outer.isEmpty()) {
                    state = 4;
                } else {
                    return i;
                }
                i = end;
            }
            return state == 4 ? -1 : text.length();
        }
    }

    private static void counts() {
        DarkLand x = new DarkLand();
        for (int i = 0; i < 3; i++) {
            x.node(i);
        }
        x.line(0, 1, 1, 0);
        x.line(0, 1, 99, 0);
        x.plant(1, 0, 100, 10);
        for (int i = 0; i < 5; i++) {
            x.load(0, 1, 1);
        }
        for (int i = 0; i < 2; i++) {
            x.crew(0);
        }
        x.room(0, 0);
        x.order(0, 0, 2, 0);
        x.order(0, 0, 2, 0);
        Tape.read(x, "when 1;");
        Tape.feed(x, "when");
        x.falseSign(0, 0, 0, 0);
        x.deed(2, 0);
        x.run(1);
        x.deed(0, 1);
        x.run(6);
        int[] due = {7, 3, 2, 1, 5, 2, 1, 2, 2, 4, 1, 1};
        for (int what = 0; what < 12; what++) {
            Due.is("count(" + what + ")", x.count(what), due[what]);
        }
        Due.is("count(-1)", x.count(-1), BAD);
        Due.is("count(12)", x.count(12), BAD);
    }
}
