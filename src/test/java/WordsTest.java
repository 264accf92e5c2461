/** Promises 13 to 17: feed, vote, voids, value, why. */
public final class WordsTest {
    public static void main(String[] args) {
        feed();
        faults();
        faultsAnew();
        wholeTexts();
        vote();
        voteFull();
        voids();
        values();
        tests();
        daysOfValues();
        Check.end();
    }

    private static AlpCommune withHouses(int n) {
        AlpCommune x = new AlpCommune();
        for (int i = 0; i < n; i++) x.house(2, 3, 10, 100);
        return x;
    }

    private static void feed() {
        AlpCommune x = withHouses(1);
        for (int n : Check.outside(0, 4)) Check.due("n " + n, x.feed(0x20, n), -2);
        Check.due("n 0", x.feed(0x72617465, 0), 0);
        Check.due("n 4", x.feed(0x72617465, 4), 4);
        Check.due("n 2, the lowest", x.feed(0x7A7A2037, 2), 6);
        Check.due("count(12)", x.count(12), 6);
        Check.due("rate 7", x.vote(1, 0), 0);
        Check.due("value", x.value(0, 0, 0, 0), 7);
        x.feed(0x66656574, 4);
        x.feed(0x7A203132, 3);
        Check.due("feet 12", x.vote(1, 0), 1);
        Check.due("value", x.value(0, 1, 0, 0), 12);
        x.feed(0xFFFFFF72, 4);
        Check.due("bytes above 127", x.vote(1, 0), -10);
        for (int i = 0; i < 24; i++) x.feed(0x20202020, 4);
        Check.due("98", x.feed(0x2020, 2), 98);
        Check.due("FULL", x.feed(0x202020, 3), -4);
        Check.due("BAD ahead of FULL", x.feed(0, 5), -2);
        Check.due("100", x.feed(0x2020, 2), 100);
        Check.due("n 0 at the end", x.feed(1, 0), 100);
        Check.due("FULL", x.feed(0x20, 1), -4);
        Check.due("count(12)", x.count(12), 100);
    }

    /** A text, and the place of its fault. */
    private static void fault(String text, int place) {
        AlpCommune x = withHouses(1);
        Check.due("said: " + text, Check.say(x, text), text.length());
        Check.due("fault of: " + text, x.vote(1, 0), -10 - place);
        Check.due("the tape is empty after: " + text, x.count(12), 0);
        Check.due("no word: " + text, x.count(2), 0);
    }

    private static void faults() {
        String[] keys = {"rate", "feet", "from", "till", "heads", "fine", "lot", "watch"};
        for (String key : keys) {
            for (int i = 0; i < key.length(); i++) fault(key.substring(0, i), i);
            fault(key, key.length());
            fault(key + "s 3", key.length());
            fault(key + " ", key.length() + 1);
            fault(key + "  3", key.length() + 1);
            fault(key + " 3 ", key.length() + 3);
        }
        fault(" rate 3", 0);
        fault("Rate 3", 0);
        fault("fxrm 3", 1);
        fault("fi3", 2);
        fault("lots 3", 3);
        fault("rate 123456", 10);
        fault("rate -3", 5);
        fault("rate 3  if cows<3", 7);
        fault("rate 3 i", 8);
        fault("rate 3 if", 9);
        fault("rate 3 ifcows<3", 9);
        fault("rate 3 unle ss", 11);
        fault("rate 3 when cows<3", 7);
        fault("rate 3 if ", 10);
        fault("rate 3 if not", 13);
        fault("rate 3 if not ", 14);
        fault("rate 3 if not not cows<3", 14);
        fault("rate 3 if no cows<3", 12);
        fault("rate 3 if cows", 14);
        fault("rate 3 if cows <3", 14);
        fault("rate 3 if cows<", 15);
        fault("rate 3 if cows<=3", 15);
        fault("rate 3 if cows< 3", 15);
        fault("rate 3 if cows<123456", 20);
        fault("rate 3 if heap<3", 13);
        fault("rate 3 if heart<3", 15);
        fault("rate 3 if hex<3", 12);
        fault("rate 3 if sea=3", 13);
        fault("rate 3 if cows<3 ", 17);
        fault("rate 3 if cows<3,", 16);
        fault("rate 3 if cows<3 xor hay<3", 17);
        fault("rate 3 if cows<3 an hay<3", 19);
        fault("rate 3 if cows<3 and", 20);
        fault("rate 3 if cows<3 or", 19);
        fault("rate 3 if cows<3 and ", 21);
        fault("rate 3 if cows<3 unless hay<3", 17);
        fault("rate 3 if cows<3 and cows<3 or cows<3 and cows<3 ", 48);
        fault("rate 3 if cows<3 and cows<3 or cows<3 and cows<3 or hay<3", 48);
        fault("rate 3 if cows<3 and cows<3 or cows<3 and cows<12345 or", 52);
        fault("rate 3\n", 6);
        fault("rate 3 if not<3", 13);
        fault("rate 3 if notcows<3", 13);
        fault("rate :", 5);
        fault("rate /", 5);
        fault("rate 3:", 6);
        fault("rate 3/", 6);
        fault("rate 3 if cows3", 14);
        fault("rate 3 if cows=/", 15);
        fault("rate 3 if cows=3:", 16);
    }

    /** What an earlier text left behind the tape's end is none of it. */
    private static void faultsAnew() {
        AlpCommune x = withHouses(1);
        String text = "rate 3 if cows<3 and not hay=4 or year>0";
        Check.due("a first word", Check.pass(x, text), 0);
        String ends = "0123456789";
        for (int i = text.length() - 1; i >= 0; i--) {
            boolean whole = ends.indexOf(i == 0 ? ' ' : text.charAt(i - 1)) >= 0;
            Check.say(x, text.substring(0, i));
            Check.due("the first " + i + " bytes", x.vote(0, 0), whole ? -3 : -10 - i);
        }
    }

    private static void whole(String text) {
        AlpCommune x = withHouses(1);
        Check.say(x, text);
        Check.due("word: " + text, x.vote(1, 0), 0);
        Check.due("the tape is empty after: " + text, x.count(12), 0);
    }

    private static void wholeTexts() {
        String[] keys = {"rate", "feet", "from", "till", "heads", "fine", "lot", "watch"};
        for (int key = 0; key < 8; key++) {
            AlpCommune x = withHouses(1);
            Check.pass(x, keys[key] + " 00123");
            for (int k = 0; k < 8; k++) Check.due(keys[key] + " for " + k, x.why(0, k, 0, 0), k == key ? 0 : -1);
            Check.due(keys[key], x.value(0, key, 0, 0), 123);
        }
        whole("rate 0");
        whole("rate 99999");
        whole("rate 3 if cows<3");
        whole("rate 3 unless hay>12345");
        whole("rate 3 if not heads=3 and hearths<0 or not year=1 and season>99999");
        String longest = "watch 12345 unless not hearths<12345 and not hearths=12345 and not hearths>12345 and not hearths<123";
        Check.due("100 bytes", longest.length(), 100);
        whole(longest);
    }

    private static void vote() {
        AlpCommune x = withHouses(5);
        for (int set : new int[] {32, -1, Check.LEAST, Check.MOST, 1 << 10}) {
            Check.say(x, "!");
            Check.due("yes " + set, x.vote(set, 0), -2);
            Check.due("no " + set, x.vote(7, set), -2);
            Check.due("the tape stays", x.count(12), 1);
            Check.due("a fault", x.vote(7, 0), -10);
        }
        Check.due("the empty tape", x.vote(31, 0), -10);
        int[][] fails = {{0, 0}, {3, 0}, {0, 31}, {3, 12}, {1, 6}, {7, 4}, {31, 1}, {31, 31}, {1, 0}, {3, 3}};
        for (int[] sets : fails) {
            Check.say(x, "rate 3");
            Check.due("fails " + sets[0] + " " + sets[1], x.vote(sets[0], sets[1]), -3);
            Check.due("the tape is empty", x.count(12), 0);
            Check.say(x, "rate 3 ");
            Check.due("the fault ahead of STATE", x.vote(sets[0], sets[1]), -17);
        }
        int[][] passing = {{7, 0}, {3, 4}, {7, 24}, {31, 0}, {28, 3}};
        for (int i = 0; i < passing.length; i++) {
            Check.say(x, "rate 3");
            Check.due("passes " + passing[i][0] + " " + passing[i][1], x.vote(passing[i][0], passing[i][1]), i);
        }
        Check.due("count(2)", x.count(2), passing.length);
        // What a word that did not pass said is gone.
        AlpCommune anew = withHouses(1);
        Check.say(anew, "rate 3 if cows=11 or not cows=10");
        Check.due("doesn't pass", anew.vote(0, 0), -3);
        Check.due("without a test", Check.pass(anew, "rate 4"), 0);
        Check.due("holds", anew.value(0, 0, 0, 0), 4);
        Check.say(anew, "feet 3 unless not cows=11 and");
        Check.due("a fault", anew.vote(1, 0), -10 - 29);
        Check.due("without a test", Check.pass(anew, "lot 4"), 1);
        Check.due("holds", anew.value(0, 6, 0, 0), 4);
        Check.due("the other key has none", anew.why(0, 1, 0, 0), -1);
        Check.say(anew, "feet 3 if not cows=11 or not hay=3");
        Check.due("doesn't pass", anew.vote(0, 1), -3);
        Check.due("two plain tests", Check.pass(anew, "feet 9 if cows=10 and hay=3"), 2);
        Check.due("does not hold", anew.value(0, 1, 0, 0), 4);
        AlpCommune four = withHouses(4);
        Check.say(four, "rate 3");
        Check.due("half of four", four.vote(3, 0), 0);
        Check.say(four, "rate 3");
        Check.due("less than half", four.vote(1, 0), -3);
        Check.say(four, "rate 3");
        Check.due("as many", four.vote(3, 12), -3);
        AlpCommune none = new AlpCommune();
        Check.say(none, "rate 3");
        Check.due("no houses, a set", none.vote(1, 0), -2);
        Check.due("no houses", none.vote(0, 0), -3);
    }

    private static void voteFull() {
        AlpCommune x = withHouses(1);
        for (int i = 0; i < 40; i++) Check.due("word " + i, Check.pass(x, "lot " + i), i);
        Check.say(x, "?");
        Check.due("BAD ahead of FULL", x.vote(2, 0), -2);
        Check.due("FULL ahead of the fault", x.vote(1, 0), -4);
        Check.due("the tape stays", x.count(12), 1);
        Check.due("FULL ahead of STATE", x.vote(0, 1), -4);
        Check.due("the latest", x.value(0, 6, 0, 0), 39);
        Check.due("count(2)", x.count(2), 40);
    }

    private static void voids() {
        AlpCommune x = withHouses(2);
        x.change(0, 3, 9000);
        x.counts();
        x.right(0, 1, 500);
        x.alp(0, 9);
        Check.pass(x, "from 0");
        Check.pass(x, "feet 2");
        Check.pass(x, "rate 1");
        Check.pass(x, "feet 3 if cows>500");
        for (int w : Check.outside(0, 3)) Check.due("word " + w, x.voids(w), -1);
        x.drive(0, 0, 1);
        x.drive(0, 0, 2);
        Check.due("feet of drive 0", x.book(0, 4), 1);
        Check.due("rate of drive 0", x.book(0, 5), 2);
        x.days(2);
        Check.due("void rate", x.voids(2), 2);
        Check.due("void again", x.voids(2), -3);
        x.drive(0, 0, 3);
        Check.due("rate of drive 2", x.book(2, 5), -1);
        Check.due("void feet", x.voids(1), 3);
        Check.due("from gave no drive", x.voids(0), 0);
        Check.due("no drive by it", x.voids(3), 0);
        Check.due("known ahead of it", x.value(0, 0, 2, 1), 1);
        Check.due("known on its day", x.value(0, 0, 2, 2), 30);
        Check.due("known behind it", x.value(0, 0, 2, 3), 30);
        Check.due("not known again", x.why(0, 1, 0, 1), 1);
        Check.due("at first again", x.why(0, 1, 0, 2), -1);
    }

    private static void values() {
        AlpCommune x = withHouses(2);
        int[] first = {30, 4, 150, 270, 2, 5, 3, 1};
        for (int key = 0; key < 8; key++) {
            Check.due("at first " + key, x.value(1, key, 0, 0), first[key]);
            Check.due("by none " + key, x.why(1, key, Check.MOST, Check.MOST), -1);
        }
        for (int h : Check.outside(0, 1)) {
            Check.due("house " + h, x.value(h, 0, 0, 0), -5);
            Check.due("house " + h, x.why(h, 0, 0, 0), -5);
        }
        for (int key : Check.outside(0, 7)) {
            Check.due("key " + key, x.value(0, key, 0, 0), -5);
            Check.due("key " + key, x.why(0, key, 0, 0), -5);
        }
        for (int day : new int[] {-1, Check.LEAST}) {
            Check.due("a " + day, x.value(0, 0, day, 0), -5);
            Check.due("k " + day, x.value(0, 0, 0, day), -5);
            Check.due("a " + day, x.why(0, 0, day, 0), -5);
            Check.due("k " + day, x.why(0, 0, 0, day), -5);
        }
        Check.due("a beyond 7199", x.value(0, 0, 7200, 0), 30);
        Check.due("k the greatest", x.value(0, 0, 0, Check.MOST), 30);
    }

    /** Whether a condition holds for a house of 2 hearths, 3 heads, 10 cows, 100 hay, as of a day. */
    private static void holds(String condition, int a, boolean does) {
        AlpCommune x = withHouses(1);
        Check.due("said: " + condition, Check.pass(x, "fine 77 " + condition), 0);
        Check.due(condition + " as of " + a, x.value(0, 5, a, 0), does ? 77 : 5);
        Check.due(condition + " why, as of " + a, x.why(0, 5, a, 0), does ? 0 : -1);
    }

    private static void tests() {
        String[] fields = {"cows", "hay", "heads", "hearths", "year", "season"};
        int[] has = {10, 100, 3, 2, 4, 9};
        int a = 4 * 360 + 9;
        for (int f = 0; f < fields.length; f++) {
            for (int d = -1; d <= 1; d++) {
                int than = has[f] + d;
                holds("if " + fields[f] + "<" + than, a, d > 0);
                holds("if " + fields[f] + "=" + than, a, d == 0);
                holds("if " + fields[f] + ">" + than, a, d < 0);
                holds("unless " + fields[f] + ">" + than, a, d >= 0);
                holds("if not " + fields[f] + "=" + than, a, d != 0);
                holds("unless not " + fields[f] + "=" + than, a, d == 0);
            }
        }
        String yes = "cows=10", no = "cows=11";
        for (int bits = 0; bits < 64; bits++) {
            boolean p = (bits & 1) != 0, q = (bits & 2) != 0, r = (bits & 4) != 0, s = (bits & 8) != 0;
            String join = (bits & 16) != 0 ? " and " : " or ";
            String condition = (p ? yes : no) + join + (q ? yes : no) + ((bits & 32) != 0 ? " and " : " or ") + (r ? yes : no);
            boolean three = (bits & 16) != 0
                ? ((bits & 32) != 0 ? p && q && r : p && q || r)
                : ((bits & 32) != 0 ? p || q && r : p || q || r);
            holds("if " + condition, 0, three);
            holds("unless " + condition, 0, !three);
            boolean four = (bits & 16) != 0
                ? ((bits & 32) != 0 ? p && q && r || s : p && q || r || s)
                : ((bits & 32) != 0 ? p || q && r || s : p || q || r || s);
            holds("if " + condition + " or " + (s ? yes : no), 0, four);
            boolean fourAnd = (bits & 16) != 0
                ? ((bits & 32) != 0 ? p && q && r && s : p && q || r && s)
                : ((bits & 32) != 0 ? p || q && r && s : p || q || r && s);
            holds("if " + condition + " and " + (s ? yes : no), 0, fourAnd);
        }
        AlpCommune x = withHouses(1);
        Check.pass(x, "lot 9 if hay<50");
        Check.due("not yet", x.value(0, 6, 0, 0), 3);
        x.change(0, 3, 49);
        Check.due("by what it has now", x.value(0, 6, 0, 0), 9);
    }

    private static void daysOfValues() {
        AlpCommune x = withHouses(1);
        x.days(10);
        Check.pass(x, "rate 7");
        x.days(10);
        Check.pass(x, "rate 8");
        Check.pass(x, "rate 9 unless season=25");
        Check.due("ahead of all", x.why(0, 0, 9, 100), -1);
        Check.due("not known", x.why(0, 0, 100, 9), -1);
        Check.due("the first, on its day", x.value(0, 0, 10, 10), 7);
        Check.due("the first known", x.value(0, 0, 20, 19), 7);
        Check.due("the first as of", x.value(0, 0, 19, 20), 7);
        Check.due("the latest of a day", x.value(0, 0, 20, 20), 9);
        Check.due("one that doesn't hold then", x.value(0, 0, 25, 25), 8);
        Check.due("as the day a goes, not k", x.value(0, 0, 26, 25), 9);
        Check.due("a year behind", x.value(0, 0, 385, 25), 8);
    }
}
