/** Counts the answers that are not the ones that are due, and tells each. */
final class HelperDue {
    private static int wrong = 0;
    private static int looked = 0;

    private HelperDue() {
    }

    static void due(String call, long got, long want) {
        looked++;
        if (got == want) return;
        wrong++;
        System.out.println(call + " answered " + got + ", due is " + want);
    }

    static void due(String call, boolean so) {
        due(call, so ? 1 : 0, 1);
    }

    /** Ends the program: with exit code 1, if an answer was wrong. */
    static void end() {
        System.out.println(looked + " answers looked at, " + wrong + " wrong");
        if (wrong != 0 || looked == 0) System.exit(1);
    }

    static void feed(HangmanDinner x, String text) {
        for (int i = 0; i < text.length(); i++) x.feed(text.charAt(i));
    }

    /** Feeds a text and answers what town() answers then. */
    static int town(HangmanDinner x, String text) {
        feed(x, text);
        return x.town();
    }

    /** A new object with one house a row: kind, v, base. */
    static HangmanDinner street(int[]... houses) {
        HangmanDinner x = new HangmanDinner();
        for (int[] house : houses) x.house(house[0], house[1], house[2]);
        return x;
    }

    static int[] h(int kind, int v, int base) {
        return new int[] {kind, v, base};
    }

    static HangmanDinner plain(int houses) {
        HangmanDinner x = new HangmanDinner();
        for (int i = 0; i < houses; i++) x.house(0, 0, 0);
        return x;
    }
}
