/** What the tests share: it counts answers that are not as due, and says a text to the tape. */
final class Check {
    static final int LEAST = Integer.MIN_VALUE, MOST = Integer.MAX_VALUE;

    private static int wrong;
    private static int asked;

    private Check() { }

    static void due(String call, long got, long want) {
        asked++;
        if (got == want) return;
        wrong++;
        System.out.println(call + " answered " + got + ", due is " + want);
    }

    /** The same answer is due for each of several wrong numbers. */
    static int[] outside(int least, int most) {
        return new int[] {Check.LEAST, least - 1, most + 1, Check.MOST};
    }

    /** Feeds a text byte by byte: what the last feed answered. */
    static int say(AlpCommune x, String text) {
        int length = x.feed(0, 0);
        for (int i = 0; i < text.length(); i++) length = x.feed(text.charAt(i), 1);
        return length;
    }

    /** A word with the votes of all houses. */
    static int pass(AlpCommune x, String text) {
        say(x, text);
        return x.vote((1 << x.count(0)) - 1, 0);
    }

    static void live(AlpCommune x, int days) {
        for (int left = days; left > 0; left -= 120) x.days(Math.min(left, 120));
    }

    static void end() {
        System.out.println(asked + " answers, " + wrong + " not as due");
        if (wrong != 0) System.exit(1);
    }
}
