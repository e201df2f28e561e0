/** Feeds texts to a land. */
final class Tape {
    private Tape() {
    }

    static void feed(DarkLand land, String text) {
        for (int i = 0; i < text.length(); i += 8) {
            String part = text.substring(i, Math.min(text.length(), i + 8));
            long w = 0;
            for (char c : part.toCharArray()) {
                w = w << 8 | c & 255;
            }
            land.feed(w, part.length());
        }
    }

    /** What text() answers for a text on an empty tape. */
    static int read(DarkLand land, String text) {
        feed(land, text);
        return land.text();
    }
}
