/** Compares answers with what is due, and counts those that differ. */
final class Check {
    private static int checked = 0;
    private static int wrong = 0;

    private Check() {
    }

    static void due(String what, long got, long want) {
        checked++;
        if (got != want) {
            wrong++;
            System.out.println(what + " answered " + got + ", due is " + want);
        }
    }

    static void yes(String what, boolean got) {
        due(what, got ? 1 : 0, 1);
    }

    static void no(String what, boolean got) {
        due(what, got ? 1 : 0, 0);
    }

    /** Feeds a text of characters 1 to 255, four a call. */
    static void feed(RunDesk desk, String text) {
        for (int i = 0; i < text.length(); i += 4) {
            int four = 0;
            for (int k = i; k < i + 4; k++) {
                four = four << 8 | (k < text.length() ? text.charAt(k) : 0);
            }
            desk.feed(four);
        }
    }

    /** Puts a text in the place of the one that the desk has. */
    static void write(RunDesk desk, String text) {
        desk.end(0);
        feed(desk, text);
    }

    static int checked() {
        return checked;
    }

    static int wrong() {
        return wrong;
    }
}
