import java.util.function.Consumer;
import java.util.function.IntFunction;
import java.util.function.ToLongFunction;

/** Terms 4 (texts) and promises 28 to 30, a test for each sentence that names a boundary. */
public final class EdgesOfTextsTest {
    private static final int BAD = DarkLand.BAD, FULL = DarkLand.FULL;
    private static final int LEAST = Integer.MIN_VALUE, MOST = Integer.MAX_VALUE;
    private static final Consumer<DarkLand> FULL_OF_TEXTS = x -> {
        x.feed(';', 1);
        x.text();
        for (int i = 2; i < 5; i++) {
            Tape.read(x, "when " + i + ";");
        }
        Tape.feed(x, "when 1");
    };

    public static void main(String[] args) {
        feedOfBytes();
        feedTheLowestBytes();
        feedTheHighestFirst();
        feedBehindTheTape();
        tapeAtMost();
        textOfNothing();
        textEmptiesTheTape();
        textsAtMost();
        textIsNumbered();
        textOfAWholeTape();
        textZero();
        faultAtTheFirstToken();
        faultAtTheEnd();
        faultOfEveryByte();
        faultOfAWord();
        faultOfANumber();
        faultsByTheirPlace();
        tokensAsLongAsCanBe();
        blanks();
        bracketsOpen();
        notsOpen();
        minusesOpen();
        openTillTheyEnd();
        nothingButOneText();
        comparedOnce();
        truths();
        valuesWrap();
        valuesByOrder();
        theDeepestTexts();
        names();
        countsOfNone();
        counts();
        Due.end();
    }

    private static void refused(String call, int[] bad, IntFunction<ToLongFunction<DarkLand>> of, long due) {
        for (int v : bad) {
            Twins.refuses(call + " " + v, of.apply(v), due);
        }
    }

    /** A text without a fault is TEXT 1; with one it is at a place. */
    private static void fault(String text, int place) {
        Due.is("text() of " + text, Tape.read(new DarkLand(), text), -100 - place);
    }

    private static void fine(String text) {
        Due.is("text() of " + text, Tape.read(new DarkLand(), text), 1);
    }

    private static void is(String text, int due) {
        DarkLand x = new DarkLand();
        x.node(0);
        x.room(0, 0);
        Due.is("text() of " + text, Tape.read(x, "when " + text + ";"), 1);
        Due.is(text, x.when(0, 1), due);
    }

    /** "BAD: n not 1 .. 8" */
    private static void feedOfBytes() {
        refused("feed, n", new int[] {0, -1, 9, LEAST, MOST}, n -> x -> x.feed('a', n), BAD);
        Due.is("n 1", Twins.land().feed(0, 1), 7);
        Due.is("n 8", Twins.land().feed(0, 8), 14);
    }

    /** "The n lowest bytes of w" */
    private static void feedTheLowestBytes() {
        for (int n = 1; n < 8; n++) {
            DarkLand x = new DarkLand();
            // a byte that would be a fault, and does not come, ahead of blanks
            Due.is("feed", x.feed(0xff20202020202020L, n), n);
            Tape.feed(x, "when 1;");
            Due.is("text()", x.text(), 1);
        }
        DarkLand x = new DarkLand();
        x.feed(0xffffffff00776865L, 3);
        x.feed(-1L << 32 | 0x6e20313bL, 4);
        Due.is("text()", x.text(), 1);
        DarkLand y = new DarkLand();
        y.feed(-1L, 1);
        Due.is("a byte of 255", y.text(), -100);
    }

    /** "the highest first" */
    private static void feedTheHighestFirst() {
        DarkLand x = new DarkLand();
        x.feed(0x7768656e2031323bL, 8);
        Due.is("when 12;", x.text(), 1);
        x.node(0);
        x.room(0, 0);
        Due.is("12", x.when(0, 1), 12);
        DarkLand y = new DarkLand();
        y.feed(0x776865, 3);
        y.feed(0x6e20, 2);
        y.feed(0x3132, 2);
        y.feed(0x3b, 1);
        y.text();
        y.node(0);
        y.room(0, 0);
        Due.is("12", y.when(0, 1), 12);
    }

    /** "come behind THE TAPE's: how many it has" */
    private static void feedBehindTheTape() {
        DarkLand x = new DarkLand();
        int has = 0;
        for (int n = 1; n <= 8; n++) {
            has += n;
            Due.is("feed", x.feed(0, n), has);
            Due.is("count(9)", x.count(9), has);
        }
    }

    /** "THE TAPE (160 bytes at most)": what would go beyond comes not at all; BAD is told ahead of FULL. */
    private static void tapeAtMost() {
        for (int n = 1; n <= 8; n++) {
            int bytes = n;
            for (int left = 0; left <= 8; left++) {
                DarkLand x = new DarkLand();
                for (int i = 0; i < 152; i += 8) {
                    x.feed(0, 8);
                }
                if (left < 8) {
                    x.feed(0, 8 - left);
                }
                Due.is("count(9)", x.count(9), 160 - left);
                Due.is("feed of " + n + " where " + left + " have room", x.feed(0, bytes), n <= left ? 160 - left + n : FULL);
                Due.is("count(9)", x.count(9), n <= left ? 160 - left + n : 160 - left);
            }
            Consumer<DarkLand> full = x -> {
                x.feed(';', 1);
                for (int i = 0; i < 19; i++) {
                    x.feed(0x2020202020202020L, 8);
                }
            };
            Twins.refusesBehind(full.andThen(x -> x.feed(32, 1)), "feed of " + n, x -> x.feed(-1L, bytes), FULL);
            if (n > 1) {
                int less = n - 1;
                Twins.refusesBehind(full.andThen(x -> x.feed(-1L, 1)).andThen(x -> x.text())
                    .andThen(full).andThen(x -> x.feed(0x2020202020202020L, 8 - less)), "feed of " + n, x -> x.feed(-1L, bytes), FULL);
            }
        }
        Consumer<DarkLand> full = x -> {
            for (int i = 0; i < 19; i++) {
                x.feed(0x2020202020202020L, 8);
            }
            x.feed(0x2020, 2);
        };
        Twins.refusesBehind(full, "feed of 0, full", x -> x.feed(0, 0), BAD);
        Twins.refusesBehind(full, "feed of 9, full", x -> x.feed(0, 9), BAD);
    }

    /** "the text's size, if it ends too early", 0 */
    private static void textOfNothing() {
        DarkLand x = new DarkLand();
        Due.is("text()", x.text(), -100);
        Due.is("text() again", x.text(), -100);
        Due.is("count(8)", x.count(8), 1);
    }

    /** "THE TAPE, which is empty then" : behind a text and behind a FAULT. */
    private static void textEmptiesTheTape() {
        DarkLand x = new DarkLand();
        Due.is("a text", Tape.read(x, "when 1;"), 1);
        Due.is("count(9)", x.count(9), 0);
        Due.is("a fault", Tape.read(x, "when 1"), -106);
        Due.is("count(9)", x.count(9), 0);
        Due.is("count(8)", x.count(8), 2);
        Due.is("it was all gone", Tape.read(x, ";"), -100);
        Due.is("a text", Tape.read(x, "when 2;"), 2);
        x.node(0);
        x.room(0, 0);
        Due.is("the first stays", x.when(0, 1), 1);
        Due.is("the second", x.when(0, 2), 2);
    }

    /** "TEXTS .., 6 at most"; "FULL (ahead of the FAULT; then THE TAPE stays)" */
    private static void textsAtMost() {
        Twins.refusesBehind(FULL_OF_TEXTS, "the 7th, with a fault", x -> x.text(), FULL);
        Twins.refusesBehind(FULL_OF_TEXTS.andThen(x -> x.feed(';', 1)), "the 7th", x -> x.text(), FULL);
        DarkLand x = new DarkLand();
        for (int i = 1; i < 6; i++) {
            Due.is("a fault is none of the 6", Tape.read(x, "when;"), -104);
            Due.is("text", Tape.read(x, "when " + i + ";"), i);
            Due.is("count(8)", x.count(8), i + 1);
        }
        Due.is("the 7th, of nothing", x.text(), FULL);
        Due.is("the 7th", Tape.read(x, "when 6;"), FULL);
        Due.is("the tape stays", x.count(9), 7);
        Due.is("the 7th, with a fault", Tape.read(x, "#"), FULL);
        Due.is("the tape stays", x.count(9), 8);
    }

    /** "TEXTS are numbered from 0 on": each keeps to its own. */
    private static void textIsNumbered() {
        DarkLand x = new DarkLand();
        x.node(0);
        x.room(0, 0);
        for (int i = 1; i < 6; i++) {
            Due.is("text", Tape.read(x, "when " + i + " * 11;"), i);
        }
        for (int i = 1; i < 6; i++) {
            Due.is("when(0, " + i + ")", x.when(0, i), 11 * i);
        }
    }

    /** "THE TAPE (160 bytes at most)": a text of 160, of 80 tokens and of one. */
    private static void textOfAWholeTape() {
        String ones = "when 1";
        while (ones.length() < 158) {
            ones += "+1";
        }
        DarkLand x = new DarkLand();
        x.node(0);
        x.room(0, 0);
        Due.is("of many tokens", Tape.read(x, ones + " ;"), 1);
        Due.is("its value", x.when(0, 1), 77);
        Due.is("too early by its last byte", Tape.read(x, ones + "  "), -260);
        Due.is("of one word", Tape.read(x, "a".repeat(160)), -100);
        Due.is("of 160 signs", Tape.read(x, "(".repeat(160)), -100);
        Due.is("of one number", Tape.read(x, "when " + "9".repeat(155)), -105);
        Due.is("of blanks", Tape.read(x, "\n".repeat(160)), -260);
        Due.is("the last byte is one too many", Tape.read(x, "when 1;" + " ".repeat(152) + ";"), -259);
    }

    /** "TEXT 0, at first: when lit and 4 < held ;" */
    private static void textZero() {
        DarkLand x = new DarkLand();
        Due.is("count(8)", x.count(8), 1);
        x.node(0);
        x.plant(1, 0, 9, 9);
        x.room(0, 0);
        x.deed(2, 0);
        for (int t = 0; t < 10; t++) {
            Due.is("when(0, 0) at " + t, x.when(0, 0), t > 4 ? 1 : 0);
            x.run(1);
        }
        x.falseSign(0, 9, 0, 0);
        Due.is("not lit", x.when(0, 0), 0);
        x.mend(0);
        x.falseSign(0, 9, 3, 4);
        Due.is("held 4", x.when(0, 0), 0);
        x.falseSign(0, 9, 3, 5);
        x.falseSign(0, 9, 0, -7);
        Due.is("held 5, lit by a number that is not 0", x.when(0, 0), 1);
    }

    /** "the place of the first byte of the first TOKEN that can't stand there" */
    private static void faultAtTheFirstToken() {
        fault("lit;", 0);
        fault("  lit;", 2);
        fault("when when 1;", 5);
        fault("when 1 1;", 7);
        fault("when 1 lit;", 7);
        fault("when lit 12;", 9);
        fault("when ;", 5);
        fault("when );", 5);
        fault("when ();", 6);
        fault("when (1;", 7);
        fault("when 1);", 6);
        fault("when (1));", 8);
        fault("when 1 + ;", 9);
        fault("when 1 * * 1;", 9);
        fault("when * 1;", 5);
        fault("when + 1;", 5);
        fault("when < 1;", 5);
        fault("when = 1;", 5);
        fault("when and 1;", 5);
        fault("when or 1;", 5);
        fault("when 1 not 1;", 7);
        fault("when 1 < not 1;", 9);
        fault("when 1 + not 1;", 9);
        fault("when 1 * not 1;", 9);
        fault("when - not 1;", 7);
        fault("when not and 1;", 9);
        fault("when 1 and and 1;", 11);
        fault("when 1 or and 1;", 10);
        fault("when 1 (1);", 7);
        fault("when lit when;", 9);
    }

    /** "(the text's size, if it ends too early)": with its blanks. */
    private static void faultAtTheEnd() {
        String text = "when not (lit + 4 * - 2 < held and 1) or falls;";
        int[] ends = {0, 4, 5, 8, 9, 10, 13, 14, 15, 16, 17, 18, 19, 20, 21, 22, 23, 24, 25, 26, 30, 31, 34, 35, 36, 37, 38, 40, 41, 46};
        for (int end : ends) {
            fault(text.substring(0, end), end);
            if (end == 0 || end > 3) {
                fault(text.substring(0, end) + " \n ", end + 3);
            }
        }
        fine(text);
        fault("when 1 ", 7);
        fault("when 1", 6);
        fault(" ", 1);
    }

    /** "also of a byte that begins none": of all 256, where an operator, and where a ONE may stand. */
    private static void faultOfEveryByte() {
        for (int b = 0; b < 256; b++) {
            char c = (char) b;
            boolean blank = b == 32 || b == 10;
            boolean digit = c >= '0' && c <= '9';
            int place = blank || digit ? -1 : "+-*<=".indexOf(c) >= 0 && b > 0 ? 7 : c == ';' ? 7 : 6;
            String text = "when 1" + c + ";";
            if (place < 0) {
                fine(text);
            } else {
                fault(text, place);
            }
            String ahead = c + "when 1;";
            if (blank) {
                fine(ahead);
            } else {
                fault(ahead, 0);
            }
            String behind = "when 1;" + c;
            if (blank) {
                fine(behind);
            } else {
                fault(behind, 7);
            }
        }
        for (int b = 0; b < 256; b++) {
            char c = (char) b;
            boolean digit = c >= '0' && c <= '9';
            String text = "when " + c + " 1;";
            if (b == 32 || b == 10 || c == '-') {
                fine(text);
            } else {
                fault(text, digit ? 7 : c == '(' ? 8 : 5);
            }
        }
    }

    /** "of a WORD that is neither KEY nor NAME" */
    private static void faultOfAWord() {
        for (String word : new String[] {"minute", "lit", "swing", "volts", "held", "falls"}) {
            fine("when " + word + ";");
            fault("when " + word + "s;", 5);
            fault("when x" + word + ";", 5);
            fault("when " + word.substring(1) + ";", 5);
            fault("when " + word.substring(0, word.length() - 1) + ";", 5);
            fault("when " + word.toUpperCase(java.util.Locale.ROOT) + ";", 5);
            fault("when " + word + word + ";", 5);
        }
        for (String key : new String[] {"and", "or"}) {
            fine("when 1 " + key + " 1;");
            fault("when 1 " + key + "s 1;", 7);
            fault("when 1 " + key.substring(1) + " 1;", 7);
        }
        fault("whe 1;", 0);
        fault("whens 1;", 0);
        fault("hen 1;", 0);
        fault("when no 1;", 5);
        fault("when nott 1;", 5);
        fault("when a;", 5);
        fault("when z;", 5);
        fault("when minute swing;", 12);
    }

    /** "NUMBERS (digits, 4 at most)"; "a NUMBER that is too long" */
    private static void faultOfANumber() {
        is("0", 0);
        is("9", 9);
        is("9999", 9999);
        is("0000", 0);
        is("0012", 12);
        fault("when 10000;", 5);
        fault("when 00000;", 5);
        fault("when 1 + 99999;", 9);
        fault("when 123456789012345678901234567890;", 5);
    }

    /** Of several the first in the text, of whichever sort they are. */
    private static void faultsByTheirPlace() {
        fault("when 1 1 #;", 7);
        fault("when # 1 1;", 5);
        fault("when 1 1 99999;", 7);
        fault("when 99999 1 1;", 5);
        fault("when foo 99999 #;", 5);
        fault("when 1 foo 99999 #;", 7);
        fault("when 1 ) foo;", 7);
        fault("when ((((((foo;", 10);
        fault("when (((((foo(;", 10);
        fault("when 1; #", 8);
        fault("when #", 5);
        fault("# when", 0);
    }

    /** "TOKENS, each as long as can be" */
    private static void tokensAsLongAsCanBe() {
        is("12", 12);
        fault("when 1 2;", 7);
        fault("whenlit;", 0);
        fault("when notlit;", 5);
        fault("when litandheld;", 5);
        fine("when(lit)and(held);");
        fine("when not-1;");
        fine("when 1and 2or 3;");
        fault("when 1andor 3;", 6);
        fine("when 12and 3;");
        fault("when lit2;", 8);
        fault("when 2lit;", 6);
        is("1--1", 2);
        is("1-1", 0);
        fault("when 1<=2;", 7);
        fault("when 1==2;", 7);
    }

    /** "blanks (32, 10) may stand between": ahead, behind, many, none. */
    private static void blanks() {
        fine("when 1;");
        fine("when\n1\n;\n");
        fine("   when    1   ;   ");
        fine("\n\n \nwhen 1;");
        fine("when(1);");
        fine("when-1;");
        fault("when 1\t;", 6);
        fault("when 1\r\n;", 6);
        fault("when\t1;", 4);
        fault("when " + (char) 160 + "1;", 5);
        fault("wh en 1;", 0);
    }

    /** "a ( .. while 5 of these are open" */
    private static void bracketsOpen() {
        is("(((((7)))))", 7);
        fault("when ((((((7))))));", 10);
        fault("when ( ( ( ( ( ( 7 ) ) ) ) ) );", 15);
        fault("when 1 + ((((((7))))));", 14);
        fine("when (((((1))))) + (((((1))))) and (((((1)))));");
        fine("when (((((1) + (1)) + (1)) + (1)) + (1));");
        fault("when (((((1 + (1))))));", 14);
    }

    /** "a not .. while 5 of these are open" */
    private static void notsOpen() {
        is("not not not not not 7", 0);
        is("not not not not 7", 1);
        fault("when not not not not not not 7;", 25);
        fine("when not not not not not 1 and not not not not not 1 or not not not not not 1;");
        fault("when (((((not 1)))));", 10);
        fine("when ((((not 1))));");
    }

    /** "a - ahead of a ONE while 5 of these are open": a - between TERMS is none of these. */
    private static void minusesOpen() {
        is("-----7", -7);
        is("----7", 7);
        fault("when ------7;", 10);
        is("1 ------7", 8);
        fault("when 1 -------7;", 13);
        fault("when (((((- 1)))));", 10);
        fine("when (((((1 - 1)))));");
        fine("when (((((1 - 1 - 1 - 1 - 1 - 1 - 1)))));");
        fine("when not not not not not 1 - 1;");
        fault("when not not not not not 1 - - 1;", 29);
    }

    /** "(a ( till its ) , not and - till what they belong to ends)" */
    private static void openTillTheyEnd() {
        fine("when -----1 + -----1 * -----1 < -----1;");
        fine("when (((((1))))) = (((((1)))));");
        fault("when not not not not not 1 < (1);", 29);
        fault("when not not not not not (1);", 25);
        fine("when not not not not not 1 and (1);");
        fine("when (not not not not 1) and (not not not not 1);");
        fault("when (not not not not 1 < - 1);", 26);
        fine("when (not not not not 1 and - 1);");
        fine("when - (- (- 1)) + - (- (- 1));");
        fault("when - (- (- (- 1)));", 13);
        fault("when not (- (not (- (1))));", 17);
        fine("when not (- (not 1 - 1)) or not (- (not 1));");
    }

    /** "TEXT: when E ;" and nothing else. */
    private static void nothingButOneText() {
        fault("when 1;;", 7);
        fault("when 1; when 1;", 8);
        fault("when 1; 1", 8);
        fault("when 1;a", 7);
        fault("when 1; foo", 8);
        fault("when 1;12345", 7);
        fine("when 1; \n ");
        fault(";", 0);
    }

    /** "SUM, perhaps < or = and a SUM": one of them at most, but in brackets more. */
    private static void comparedOnce() {
        fault("when 1 < 2 < 3;", 11);
        fault("when 1 < 2 = 3;", 11);
        fault("when 1 = 2 = 3;", 11);
        is("(1 < 2) < 3", 1);
        is("3 < (1 < 2)", 0);
        is("1 < 2 and 2 < 3", 1);
        is("(3 = 3) = 1", 1);
    }

    /** "of or, and, not, <, = 1 or 0 (what is not 0 is true)" */
    private static void truths() {
        is("5 or 0", 1);
        is("0 or -5", 1);
        is("5 or 7", 1);
        is("0 or 0", 0);
        is("5 and 7", 1);
        is("-1 and 2", 1);
        is("5 and 0", 0);
        is("0 and 5", 0);
        is("2 and 4", 1);
        is("not 0", 1);
        is("not 7", 0);
        is("not -1", 0);
        is("not not 7", 1);
        is("1 < 2", 1);
        is("2 < 2", 0);
        is("3 < 2", 0);
        is("-3 < -2", 1);
        is("2 = 2", 1);
        is("2 = 3", 0);
        is("7", 7);
        is("-7", -7);
        is("(5 or 0) + (0 < 1) + (not 0)", 3);
    }

    /** "An E is an int (32 bits, wrapping)" */
    private static void valuesWrap() {
        is("2048*1024*1024", LEAST);
        is("2048*1024*1024 - 1", MOST);
        is("-(2048*1024*1024)", LEAST);
        is("-(2048*1024*1024) - 1", MOST);
        is("2048*1024*1024 - 1 + 1", LEAST);
        is("2048*1024*1024 + 2048*1024*1024", 0);
        is("2048*1024*1024 * 2", 0);
        is("4096*1024*1024 + 1", 1);
        is("9999*9999*9999", 9999 * 9999 * 9999);
        is("9999*9999*9999*9999*9999", 9999 * 9999 * 9999 * 9999 * 9999);
        is("2048*1024*1024 < 2048*1024*1024 - 1", 1);
        is("2048*1024*1024 - 1 < 2048*1024*1024", 0);
        is("2048*1024*1024 = -(2048*1024*1024)", 1);
        is("4096*1024*1024 = 0", 1);
        is("not 4096*1024*1024", 1);
        is("4096*1024*1024 or 0", 0);
        is("2048*1024*1024 and 1", 1);
    }

    /** What binds first, and that what binds alike goes from the left. */
    private static void valuesByOrder() {
        is("7 - 3 - 2", 2);
        is("7 - 3 + 2", 6);
        is("2 + 3 * 4", 14);
        is("2 * 3 + 4", 10);
        is("(2 + 3) * 4", 20);
        is("-2 * 3", -6);
        is("2 * -3", -6);
        is("1 or 1 and 0", 1);
        is("0 and 1 or 1", 1);
        is("not 1 or 1", 1);
        is("not 1 = 0", 1);
        is("not 0 and 0", 0);
        is("1 + 1 < 1 + 2", 1);
        is("2 = (1 < 2)", 0);
        is("5 - 2 < 4 - 2 or 5 - 2 = 1 + 2", 1);
    }

    /** With 5 open, and in each of them one of all that can wait for what is within. */
    private static void theDeepestTexts() {
        is("1-2*(1-2*(1-2*(1-2*(1-2*(3)))))", -85);
        is("0or 1and 2<3+4*(".repeat(5) + "0or 1and 2<3+4*5" + ")))))", 1);
        is("0or 1and 9=3+6*(".repeat(5) + "0or 0and 2<3+4*5" + ")))))", 0);
        is("not(-(not 2<1))", 0);
    }

    /** "NAMES: minute lit swing volts held falls" */
    private static void names() {
        DarkLand x = new DarkLand();
        x.node(0);
        x.plant(1, 0, 300, 20);
        x.load(0, 20, 0);
        x.room(0, 0);
        String[] name = {"minute", "lit", "swing", "volts", "held"};
        for (int i = 0; i < 5; i++) {
            Due.is(name[i], Tape.read(x, "when " + name[i] + ";"), i + 1);
        }
        x.deed(2, 0);
        x.run(1);
        x.deed(4, 0);
        x.run(1);
        int[] due = {2, 1, -4, -14, 2};
        for (int i = 0; i < 5; i++) {
            Due.is(name[i], x.when(0, i + 1), due[i]);
        }
    }

    /** count: "BAD." */
    private static void countsOfNone() {
        refused("count", new int[] {-1, 12, LEAST, MOST}, w -> x -> x.count(w), BAD);
    }

    private static void counts() {
        int[] due = {4, 4, 3, 3, 3, 2, 2, 2, 2, 6, 1, 2};
        for (int what = 0; what < 12; what++) {
            int w = what;
            Twins.looks("count(" + w + ")", x -> x.count(w), due[w]);
        }
    }
}
