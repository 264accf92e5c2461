/** Boundary cases of "==== 2" and promises 13 to 17, a test for each sentence. */
public final class BoundsWordsTest extends Check {
    private static final String[] KEYS = {"rate", "feet", "from", "till", "heads", "fine", "lot", "watch"};
    private static final int[] AT_FIRST = {30, 4, 150, 270, 2, 5, 3, 1};
    private static final String[] FIELDS = {"cows", "hay", "heads", "hearths", "year", "season"};
    private static final String LONGEST =
        "watch 12345 unless not hearths<12345 and not hearths=12345 and not hearths>12345 and not hearths<123";

    public static void main(String[] args) throws IllegalAccessException {
        runSentences(BoundsWordsTest.class);
    }

    /** Three houses, and a text on the tape. */
    private static AlpCommune saying(String text) {
        AlpCommune x = Communes.withHouses(3);
        say(x, text);
        return x;
    }

    private static void whole(String text) {
        AlpCommune x = saying(text);
        due("a word: " + text, x.vote(7, 0), 0);
        due("it is the first", x.count(2), 1);
    }

    private static void fault(String text, int place) {
        AlpCommune x = saying(text);
        due("the fault of: " + text, x.vote(7, 0), -10 - place);
        due("no word", x.count(2), 0);
        due("the tape is empty", x.count(12), 0);
        due("a word behind it", pass(x, "lot 8"), 0);
        due("holds", x.value(0, 6, 0, 0), 8);
    }

    /** Whether a condition holds for a house of 2 hearths, 3 heads, 10 cows, 100 hay, as of a day. */
    private static void holds(String condition, int a, boolean does) {
        AlpCommune x = saying("fine 77 " + condition);
        due("a word: " + condition, x.vote(7, 0), 0);
        due(condition + " as of " + a, x.value(1, 5, a, 0), does ? 77 : 5);
    }

    /** A word for each of forty, "lot 0" to "lot 39". */
    private static AlpCommune fortyWords() {
        AlpCommune x = Communes.withHouses(2);
        for (int i = 0; i < 40; i++) pass(x, "lot " + i);
        return x;
    }

    // ---- the tape and what stands on it

    static void t2_bytes100AtMost() {
        sentence("THE TAPE (bytes, 100 at most)");
        AlpCommune x = Communes.withHouses(1);
        for (int i = 1; i <= 24; i++) due("feed " + i, x.feed(0x61616161, 4), 4 * i);
        due("99", x.feed(0x616161, 3), 99);
        due("101", x.feed(0x6161, 2), -4);
        due("100", x.feed(0x61, 1), 100);
        due("count(12)", x.count(12), 100);
        due("101", x.feed(0x61, 1), -4);
        due("count(12)", x.count(12), 100);
        whole(LONGEST);
        due("it is of 100 bytes", LONGEST.length(), 100);
    }

    static void t2_keyBlankNumber() {
        sentence("KEY blank NUMBER, and perhaps: blank, if or unless, blank, TEST");
        whole("rate 3");
        whole("rate 3 if cows<3");
        whole("rate 3 unless cows<3");
        fault("rate", 4);
        fault("rate3", 4);
        fault("rate  3", 5);
        fault("rate 3if cows<3", 6);
        fault("rate 3  if cows<3", 7);
        fault("rate 3 if", 9);
        fault("rate 3 ifcows<3", 9);
        fault("rate 3 if  cows<3", 10);
        fault("rate 3 unlesscows<3", 13);
        fault("rate 3 unless", 13);
        fault("rate 3 and cows<3", 7);
    }

    static void t2_4TestsAtMost() {
        sentence("then any number of times blank and blank TEST or blank or blank TEST (and binds closer); 4 TESTS at most");
        StringBuilder text = new StringBuilder("rate 3 if cows<3");
        for (int tests = 1; tests <= 4; tests++) {
            whole(text.toString());
            fault(text + " ", text.length() + (tests < 4 ? 1 : 0));
            fault(text + " unless hay<3", text.length() + (tests < 4 ? 1 : 0));
            text.append(tests == 2 ? " or hay=5" : " and hay>6");
        }
        fault(text.toString(), text.length() - " and hay>6".length());
        fault("rate 3 if cows<1 and cows<2 and cows<3 and cows<4 or cows<5", 49);
        fault("rate 3 if cows<1 or cows<2 or cows<3 or cows<4 or cows<5", 46);
    }

    static void t2_andBindsCloser() {
        sentence("(and binds closer)");
        String yes = "cows=10", no = "cows=9";
        holds("if " + yes + " or " + no + " and " + no, 0, true);
        holds("if " + no + " and " + no + " or " + yes, 0, true);
        holds("if " + no + " or " + yes + " and " + no, 0, false);
        holds("if " + no + " and " + yes + " or " + no, 0, false);
        holds("if " + yes + " or " + yes + " and " + no + " and " + no, 0, true);
        holds("if " + no + " and " + no + " and " + no + " or " + yes, 0, true);
        holds("if " + yes + " and " + no + " or " + no + " and " + yes, 0, false);
        holds("if " + yes + " and " + no + " or " + yes + " and " + yes, 0, true);
    }

    static void t2_withUnlessItHoldsIfTheyDoNot() {
        sentence("with unless it holds if they do not.");
        String yes = "cows=10", no = "cows=9";
        holds("unless " + no, 0, true);
        holds("unless " + yes, 0, false);
        holds("unless " + no + " or " + yes, 0, false);
        holds("unless " + no + " or " + no, 0, true);
        holds("unless " + yes + " and " + no, 0, true);
        holds("unless " + yes + " and " + yes, 0, false);
        holds("unless not " + no, 0, false);
        holds("unless not " + yes, 0, true);
    }

    static void t2_numberedSoFrom0On() {
        sentence("KEYS: rate feet from till heads fine lot watch (numbered so from 0 on; at first 30, 4, 150, 270, 2, 5, 3, 1).");
        for (int key = 0; key < 8; key++) {
            AlpCommune x = saying(KEYS[key] + " 12");
            for (int k = 0; k < 8; k++) due("at first " + k, x.value(0, k, 0, 0), AT_FIRST[k]);
            due(KEYS[key], x.vote(7, 0), 0);
            for (int k = 0; k < 8; k++) due(KEYS[key] + " and " + k, x.value(0, k, 0, 0), k == key ? 12 : AT_FIRST[k]);
        }
        fault("roof 3", 1);
        fault("fees 3", 3);
        fault("heart 3", 3);
    }

    static void t2_perhapsNotAndABlank() {
        sentence("TEST: perhaps not and a blank, then FIELD");
        holds("if not cows=9", 0, true);
        holds("if not cows=10", 0, false);
        fault("rate 3 if notcows=9", 13);
        fault("rate 3 if not=9", 13);
        fault("rate 3 if not not cows=9", 14);
        fault("rate 3 if not  cows=9", 14);
        fault("rate 3 if not", 13);
    }

    static void t2_oneOfANumberWithoutBlanks() {
        sentence("then FIELD, one of < = >, a NUMBER, without blanks.");
        int[] has = {10, 100, 3, 2, 2, 5};
        for (int f = 0; f < 6; f++) {
            for (int d = -1; d <= 1; d++) {
                holds("if " + FIELDS[f] + "<" + (has[f] + d), 725, d > 0);
                holds("if " + FIELDS[f] + "=" + (has[f] + d), 725, d == 0);
                holds("if " + FIELDS[f] + ">" + (has[f] + d), 725, d < 0);
            }
        }
        fault("rate 3 if cows <3", 14);
        fault("rate 3 if cows< 3", 15);
        fault("rate 3 if cows<=3", 15);
        fault("rate 3 if cows3", 14);
        fault("rate 3 if cows!3", 14);
    }

    static void t2_fieldsCowsHayHeadsHearthsYearSeason() {
        sentence("FIELDS: cows hay heads hearths year season.");
        for (String field : FIELDS) {
            whole("rate 3 if " + field + "=0");
            whole("rate 3 if not " + field + "=0");
            String beginning = "rate 3 if " + field.substring(0, field.length() - 1);
            fault(beginning, beginning.length());
            fault(beginning + "=0", beginning.length());
            fault("rate 3 if " + field + "s=0", 10 + field.length());
        }
        fault("rate 3 if rate=0", 10);
        fault("rate 3 if herd=0", 12);
    }

    static void t2_number1To5Digits() {
        sentence("NUMBER: 1 to 5 digits.");
        String[] numbers = {"0", "9", "10", "00000", "99999", "00012"};
        int[] are = {0, 9, 10, 0, 99999, 12};
        for (int i = 0; i < numbers.length; i++) {
            AlpCommune x = saying("fine " + numbers[i]);
            due("a word: fine " + numbers[i], x.vote(7, 0), 0);
            due("NUMBER " + numbers[i], x.value(0, 5, 0, 0), are[i]);
            AlpCommune y = Communes.withHouses(1);
            y.change(0, 3, are[i]);
            pass(y, "fine 7 if hay=" + numbers[i]);
            due("in a TEST " + numbers[i], y.value(0, 5, 0, 0), 7);
        }
        fault("fine ", 5);
        fault("fine x", 5);
        fault("fine 000000", 10);
        fault("fine 123456", 10);
        fault("fine 7 if hay=", 14);
        fault("fine 7 if hay=x", 14);
        fault("fine 7 if hay=000000", 19);
        fault("fine 7 if hay=123456", 19);
        fault("fine 7 if hay=12345 ", 20);
        fault("fine /", 5);
        fault("fine :", 5);
        fault("fine 1/", 6);
        fault("fine 1:", 6);
    }

    static void t2_thePlaceOfTheFirstByteWithWhichNoneBeginsSo() {
        sentence("The FAULT is the place of the first byte with which none begins so");
        String text = "watch 12345 unless not hearths<12345 and not hearths=12345 or not hearths>12345 and not hearths<123";
        for (int i = 0; i < text.length(); i++) {
            if (text.charAt(i) == ' ' || i > 0 && text.charAt(i - 1) == ' ') {
                fault(text.substring(0, i) + "#" + text.substring(i + 1), i);
            }
        }
        fault("#", 0);
        fault("#rate 3", 0);
        fault("rate 3#", 6);
        fault("f#", 1);
        fault("fe#t 3", 2);
        fault("fr#m 3", 2);
        fault(LONGEST.substring(0, 99) + "#", 99);
        for (int b : new int[] {0, 127, 128, 255, -1}) {
            AlpCommune x = Communes.withHouses(1);
            x.feed(b, 1);
            due("byte " + b, x.vote(1, 0), -10);
            x.feed('r' << 8 | b & 255, 2);
            due("a second byte " + b, x.vote(1, 0), -11);
        }
    }

    static void t2_theEndOfTheTapeIfItEndsTooEarly() {
        sentence("(the end of THE TAPE, if it ends too early).");
        String text = "watch 12 unless not hearths<12 and not hearths=5 or hay>3";
        String digits = "0123456789";
        for (int i = 0; i < text.length(); i++) {
            boolean isWhole = i > 0 && digits.indexOf(text.charAt(i - 1)) >= 0;
            if (isWhole) whole(text.substring(0, i));
            else fault(text.substring(0, i), i);
        }
        fault("", 0);
        // What a longer text left behind the tape's end is none of it.
        for (int i = text.length() - 1; i >= 0; i--) {
            AlpCommune x = Communes.withHouses(1);
            say(x, text);
            due("the whole text", x.vote(0, 1), -3);
            boolean isWhole = i > 0 && digits.indexOf(text.charAt(i - 1)) >= 0;
            say(x, text.substring(0, i));
            due("the first " + i, x.vote(0, 1), isWhole ? -3 : -10 - i);
        }
    }

    // ---- votes

    /** A vote of so many houses on "rate 3". */
    private static void voted(int houses, int yes, int no, boolean passes) {
        AlpCommune x = Communes.withHouses(houses);
        say(x, "rate 3");
        due(houses + " houses, yes " + yes + ", no " + no, x.vote(yes, no), passes ? 0 : -3);
        due("the tape is empty", x.count(12), 0);
        due("words", x.count(2), passes ? 1 : 0);
        due("rate", houses == 0 ? 3 : x.value(0, 0, 0, 0), passes || houses == 0 ? 3 : 30);
    }

    static void t2_yesAreMoreThanNo() {
        sentence("a WORD passes if yes are more than no");
        voted(4, 3, 4, true);
        voted(4, 3, 12, false);
        voted(4, 1, 6, false);
        voted(1, 1, 0, true);
        voted(1, 0, 1, false);
        voted(10, 0x3f, 0x3c0, true);
        voted(10, 0x1f, 0x3e0, false);
        voted(0, 0, 0, false);
    }

    static void t2_atLeastHalfOfTheHousesVoted() {
        sentence("at least half of the HOUSES voted");
        voted(4, 3, 0, true);
        voted(4, 8, 0, false);
        voted(5, 3, 0, false);
        voted(5, 7, 0, true);
        voted(5, 3, 16, true);
        voted(10, 0x1f, 0, true);
        voted(10, 0x0f, 0, false);
        voted(10, 7, 8, false);
        voted(10, 7, 0x18, true);
        voted(9, 0x1f, 0, true);
        voted(9, 0x0f, 0, false);
        voted(2, 2, 0, true);
    }

    static void t2_noneBothWays() {
        sentence("none both ways");
        voted(4, 15, 0, true);
        voted(4, 15, 1, false);
        voted(4, 7, 8, true);
        voted(4, 7, 4, false);
        voted(10, 0x3ff, 0x200, false);
    }

    static void t2_words0_39() {
        sentence("WORDS 0 .. 39 that passed, as they come, each on its DAY.");
        AlpCommune x = Communes.withHouses(1);
        for (int i = 0; i < 40; i++) {
            due("no word " + i + " yet", x.voids(i), -1);
            due("word " + i, pass(x, "lot " + i), i);
        }
        due("count(2)", x.count(2), 40);
        due("the latest", x.value(0, 6, 0, 0), 39);
        due("voids(39)", x.voids(39), 0);
        due("the latest", x.value(0, 6, 0, 0), 38);
        say(x, "lot 9");
        due("a 41st, though one is VOID", x.vote(1, 0), -4);
        due("voids(40)", x.voids(40), -1);
    }

    // ---- values

    /** Rate 7 passed on day 10, 8 and then 9 on 20, 9 was found VOID on 30; it is day 30. */
    private static AlpCommune rates() {
        AlpCommune x = Communes.withHouses(1);
        x.days(10);
        pass(x, "rate 7");
        x.days(10);
        pass(x, "rate 8");
        pass(x, "rate 9");
        x.days(10);
        x.voids(2);
        return x;
    }

    private static void rate(int a, int k, int word) {
        int[] rates = {30, 7, 8, 9};
        AlpCommune x = rates();
        due("rate as of " + a + " known on " + k, x.value(0, 0, a, k), rates[word + 1]);
        due("why, as of " + a + " known on " + k, x.why(0, 0, a, k), word);
    }

    static void t2_passedOnAOrAhead() {
        sentence("of the WORDS of that KEY that passed on a or ahead");
        rate(9, 25, -1);
        rate(10, 25, 0);
        rate(19, 25, 0);
        rate(20, 25, 2);
        rate(0, 25, -1);
        rate(7199, 25, 2);
        rate(7200, 25, 2);
        rate(MOST, 25, 2);
    }

    static void t2_andOnKOrAhead() {
        sentence("and on k or ahead, and were not found VOID");
        rate(25, 9, -1);
        rate(25, 10, 0);
        rate(25, 19, 0);
        rate(25, 20, 2);
        rate(25, 0, -1);
        rate(9, 9, -1);
        rate(10, 10, 0);
    }

    static void t2_wereNotFoundVoidOnKOrAhead() {
        sentence("and were not found VOID on k or ahead");
        rate(25, 29, 2);
        rate(25, 30, 1);
        rate(25, 31, 1);
        rate(20, MOST, 1);
        rate(40, 29, 2);
        rate(40, 30, 1);
        AlpCommune x = Communes.withHouses(1);
        pass(x, "rate 7");
        x.voids(0);
        due("VOID on the day on which it passed", x.value(0, 0, 0, 0), 30);
    }

    static void t2_theLatestOnesNumber() {
        sentence("and hold for that HOUSE, the latest one's NUMBER; else as at first.");
        AlpCommune x = new AlpCommune();
        x.house(1, 1, 1, 0);
        x.house(2, 1, 1, 0);
        pass(x, "rate 7");
        pass(x, "rate 8 if hearths=2");
        pass(x, "feet 9 if hearths=2");
        due("of house 0", x.value(0, 0, 0, 0), 7);
        due("of house 1", x.value(1, 0, 0, 0), 8);
        due("as at first", x.value(0, 1, 0, 0), 4);
        due("of another key", x.value(1, 1, 0, 0), 9);
        due("why 0", x.why(0, 0, 0, 0), 0);
        due("why 1", x.why(1, 0, 0, 0), 1);
        pass(x, "rate 6");
        due("the latest of 0", x.value(0, 0, 0, 0), 6);
        due("the latest of 1", x.value(1, 0, 0, 0), 6);
    }

    static void t2_testsAreByWhatTheHouseHasNow() {
        sentence("TESTS are by what the HOUSE has now");
        AlpCommune x = Communes.withHouses(1);
        String[] words = {"rate 1 if hearths=9", "feet 2 if heads>3", "from 3 if cows<1", "till 5 if hay=99999"};
        int[] first = {30, 4, 150, 270}, then = {1, 2, 3, 5}, what = {9, 4, 0, 99999};
        for (String word : words) pass(x, word);
        for (int key = 0; key < 4; key++) {
            due("not yet, " + key, x.value(0, key, 0, 0), first[key]);
            x.change(0, key, what[key]);
            due("now, " + key, x.value(0, key, 0, 0), then[key]);
        }
    }

    static void t2_dayBy360DayModulo360() {
        sentence("year, season: of the DAY a (DAY by 360, DAY modulo 360).");
        int[] days = {0, 359, 360, 719, 720, 7199, 7200, MOST};
        int[] years = {0, 0, 1, 1, 2, 19, 20, 5965232}, seasons = {0, 359, 0, 359, 0, 359, 0, 127};
        for (int i = 0; i < days.length; i++) {
            holds("if season=" + seasons[i], days[i], true);
            holds("if season<" + seasons[i] + " or season>" + seasons[i], days[i], false);
            if (years[i] > 99999) {
                holds("if year>99999", days[i], true);
                continue;
            }
            holds("if year=" + years[i], days[i], true);
            holds("if year<" + years[i] + " or year>" + years[i], days[i], false);
        }
        AlpCommune x = Communes.withHouses(1);
        x.days(5);
        pass(x, "rate 7 if season=9");
        due("as of a, not as of now", x.value(0, 0, 9, 5), 7);
        due("as of a, not as known", x.value(0, 0, 8, 9), 30);
    }

    // ---- calls

    static void p13_theHighestOfTheseFirst() {
        sentence("THE TAPE gets the n lowest bytes of a number, the highest of these first (n 0 .. 4): how many it has.");
        AlpCommune x = Communes.withHouses(1);
        due("4", x.feed(0x6c6f7420, 4), 4);
        due("0", x.feed(MOST, 0), 4);
        due("3", x.feed(0x7f313233, 3), 7);
        due("2", x.feed(0x7f7f3435, 2), 9);
        due("lot 12345", x.vote(1, 0), 0);
        due("NUMBER", x.value(0, 6, 0, 0), 12345);
        x.feed(0x6c6f7420, 4);
        due("1", x.feed(0xffffff37, 1), 5);
        due("lot 7", x.vote(1, 0), 1);
        due("NUMBER", x.value(0, 6, 0, 0), 7);
        due("bytes above 127 first", x.feed(0x80000000, 4), 4);
        due("a fault", x.vote(1, 0), -10);
    }

    private static AlpCommune tapeOf(int bytes) {
        AlpCommune x = Communes.withHouses(2);
        say(x, "a".repeat(bytes));
        return x;
    }

    static void p13_n0_4() {
        sentence("(n 0 .. 4)");
        for (int n = 0; n <= 4; n++) due("n " + n, new AlpCommune().feed(MOST, n), n);
        for (int n : outside(0, 4)) refused("n " + n, -2, Communes::valley, x -> x.feed(0x61616161, n));
    }

    static void p13_badFull() {
        sentence("BAD; FULL.");
        for (int n : outside(0, 4)) refused("BAD and FULL, n " + n, -2, () -> tapeOf(100), x -> x.feed(0x61, n));
        for (int n = 0; n <= 4; n++) {
            int count = n;
            due("up to 100, n " + n, tapeOf(100 - n).feed(0x61616161, n), 100);
            if (n < 4) refused("one more, n " + n, -4, () -> tapeOf(100 - count), x -> x.feed(0x61616161, count + 1));
        }
        refused("four more", -4, () -> tapeOf(100), x -> x.feed(0x61616161, 4));
    }

    static void p14_10LessTheFault() {
        sentence("THE TAPE is VOTED on: the WORD's number; -10 less the FAULT; STATE (behind the FAULT): it does not pass.");
        due("the first word", saying("rate 3").vote(7, 0), 0);
        due("FAULT 0", saying("").vote(7, 0), -10);
        due("FAULT 99", saying(LONGEST.substring(0, 99) + "#").vote(7, 0), -109);
        due("it does not pass", saying("rate 3").vote(0, 7), -3);
        due("FAULT and STATE", saying("rate 3 ").vote(0, 7), -17);
        due("FAULT and STATE", saying("").vote(7, 7), -10);
    }

    static void p14_theTapeIsEmptyThen() {
        sentence("(THE TAPE is empty then, by a FAULT and by STATE, too.)");
        String[] texts = {"rate 3", "rate 3", "rate 3x", "rate"};
        int[] yes = {7, 0, 7, 0}, dues = {0, -3, -16, -14};
        for (int i = 0; i < texts.length; i++) {
            AlpCommune x = saying(texts[i]);
            due("vote " + i, x.vote(yes[i], 0), dues[i]);
            due("the tape is empty", x.count(12), 0);
            due("the empty tape's FAULT", x.vote(7, 0), -10);
            due("a word behind it", pass(x, "feet 8"), i == 0 ? 1 : 0);
            due("feet", x.value(0, 1, 0, 0), 8);
            due("rate", x.value(0, 0, 0, 0), i == 0 ? 3 : 30);
        }
    }

    static void p14_stateBehindTheFaultItDoesNotPass() {
        sentence("STATE (behind the FAULT): it does not pass. (THE TAPE is empty then, by a FAULT and by STATE, too.)");
        // What one said that did not become a word is gone.
        String[] said = {"rate 3 unless cows=10 and not hay=1 or not heads=3", "rate 3 unless cows=10 and not hay=1 or not heads=3 or"};
        int[] answers = {-3, -10 - 53};
        for (int i = 0; i < 2; i++) {
            AlpCommune x = saying(said[i]);
            due("it does not become one", x.vote(i, 6), answers[i]);
            due("one without a TEST", pass(x, "feet 8"), 0);
            due("feet", x.value(0, 1, 0, 0), 8);
            due("rate", x.why(0, 0, 0, 0), -1);
            AlpCommune y = saying(said[i]);
            y.vote(i, 6);
            due("one with plain TESTS", pass(y, "feet 8 if cows=10 and hay=100 and heads=3"), 0);
            due("feet", y.value(0, 1, 0, 0), 8);
            AlpCommune z = saying(said[i]);
            z.vote(i, 6);
            due("one with plain TESTS", pass(z, "feet 8 if cows=9 and hay=100 and heads=3"), 0);
            due("feet at first", z.value(0, 1, 0, 0), 4);
        }
    }

    static void p14_badASetWithOthersThanHouses() {
        sentence("Ahead of all that BAD: a set with others than HOUSES");
        for (int set : new int[] {8, 15, -1, LEAST, MOST, 1 << 10}) {
            refused("yes " + set, -2, () -> saying("rate 3"), x -> x.vote(set, 0));
            refused("no " + set, -2, () -> saying("rate 3"), x -> x.vote(7, set));
            refused("BAD and a FAULT", -2, () -> saying("rate"), x -> x.vote(set, 0));
            refused("BAD and STATE", -2, () -> saying("rate 3"), x -> x.vote(0, set));
        }
        due("the greatest set", saying("rate 3").vote(7, 0), 0);
        AlpCommune ten = Communes.withHouses(10);
        say(ten, "rate 3");
        due("beyond ten", ten.vote(1024, 0), -2);
        due("ten", ten.vote(1023, 0), 0);
        AlpCommune none = new AlpCommune();
        due("of no houses", none.vote(1, 0), -2);
        due("none of none, an empty tape", none.vote(0, 0), -10);
    }

    private static AlpCommune fortyWordsAnd(String text) {
        AlpCommune x = fortyWords();
        say(x, text);
        return x;
    }

    static void p14_fullBothTheTapeStays() {
        sentence("FULL (both: THE TAPE stays).");
        refused("FULL", -4, () -> fortyWordsAnd("rate 3"), x -> x.vote(3, 0));
        refused("FULL and a FAULT", -4, () -> fortyWordsAnd("rate"), x -> x.vote(3, 0));
        refused("FULL and STATE", -4, () -> fortyWordsAnd("rate 3"), x -> x.vote(0, 3));
        refused("BAD and FULL", -2, () -> fortyWordsAnd("rate 3"), x -> x.vote(4, 0));
        refused("BAD and FULL", -2, () -> fortyWordsAnd("rate 3"), x -> x.vote(3, -1));
        AlpCommune full = fortyWordsAnd("rate 3");
        full.vote(3, 0);
        full.vote(4, 0);
        due("THE TAPE stays", full.count(12), 6);
        due("it can be fed on", full.feed(0x61, 1), 7);
    }

    static void p15_noneStateItWas() {
        sentence("A WORD is found VOID (DAY is now): how many DRIVES of THE BOOK were by it (feet or rate). NONE; STATE: it was.");
        int[] by = {0, 3, 2};
        for (int w = 0; w < 3; w++) {
            int word = w;
            AlpCommune x = Communes.valley();
            due("drives by " + w, x.voids(w), by[w]);
            due("it was", x.voids(w), -3);
            refused("it was, " + w, -3, () -> valleyWithout(word), y -> y.voids(word));
        }
        for (int w : outside(0, 2)) refused("word " + w, -1, Communes::valley, x -> x.voids(w));
        due("no word", new AlpCommune().voids(0), -1);
        AlpCommune x = Communes.valley();
        x.voids(1);
        due("ahead of now", x.value(0, 1, 152, 151), 3);
        due("now", x.value(0, 1, 152, 152), 4);
    }

    private static AlpCommune valleyWithout(int word) {
        AlpCommune x = Communes.valley();
        x.voids(word);
        return x;
    }

    static void p16_noneSuchAK0AndMore() {
        sentence("-5: none such (a, k 0 and more).");
        AlpCommune x = Communes.valley();
        for (int h : outside(0, 2)) due("house " + h, x.value(h, 0, 0, 0), -5);
        for (int key : outside(0, 7)) due("key " + key, x.value(0, key, 0, 0), -5);
        for (int day : new int[] {LEAST, -1}) {
            due("a " + day, x.value(0, 0, day, 0), -5);
            due("k " + day, x.value(0, 0, 0, day), -5);
        }
        for (int day : new int[] {0, 7199, 7200, MOST}) {
            due("a " + day, x.value(0, 7, day, 0), 1);
            due("k " + day, x.value(0, 7, 0, day), 1);
        }
        due("the last house and key", x.value(2, 7, 152, 152), 1);
        due("the first key", x.value(0, 0, 152, 152), 20);
    }

    static void p17_theWordThatGivesIt1NoneDoes() {
        sentence("The WORD that gives it (-1: none does). -5: likewise.");
        AlpCommune x = Communes.valley();
        int[] words = {2, 1, -1, -1, -1, 0, -1, -1};
        for (int key = 0; key < 8; key++) due("why of " + key, x.why(0, key, 152, 152), words[key]);
        for (int h : outside(0, 2)) due("house " + h, x.why(h, 0, 0, 0), -5);
        for (int key : outside(0, 7)) due("key " + key, x.why(0, key, 0, 0), -5);
        for (int day : new int[] {LEAST, -1}) {
            due("a " + day, x.why(0, 0, day, 0), -5);
            due("k " + day, x.why(0, 0, 0, day), -5);
        }
        for (int day : new int[] {0, 7199, 7200, MOST}) {
            due("a " + day, x.why(0, 5, day, 0), 0);
            due("k " + day, x.why(0, 5, 0, day), 0);
        }
        AlpCommune full = fortyWords();
        due("the last word", full.why(0, 6, 0, 0), 39);
    }
}
