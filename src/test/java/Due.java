/** Counts the answers of one test that are not the ones that are due, and tells each. */
final class Due {
    private static int wrong = 0;
    private static int asked = 0;

    private Due() {
    }

    static void is(String call, long got, long due) {
        asked++;
        if (got != due) {
            wrong++;
            if (wrong <= 50) {
                System.out.println(call + " answered " + got + ", due is " + due);
            }
        }
    }

    static void holds(String what, boolean is) {
        is(what, is ? 1 : 0, 1);
    }

    static void end() {
        System.out.println(asked + " asked, " + wrong + " wrong");
        if (wrong != 0 || asked == 0) {
            System.exit(1);
        }
    }
}
