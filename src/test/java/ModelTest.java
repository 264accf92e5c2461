import java.util.ArrayList;
import java.util.List;

/**
 * All promises: long runs of mixed calls on an AlpCommune and on the Model, with wild arguments among them, have the
 * same answers; and none throws. The same seed gives the same runs.
 */
public final class ModelTest {
    static final int MOST_CALLS = 512;
    private static final int RUNS = Integer.getInteger("runs", 1500);
    private static final int[] WILD = {Integer.MIN_VALUE, Integer.MIN_VALUE + 1, -1001, -2, -1, 0, 1, 2, 100, 1000, 7199, 7200, 7201,
        1 << 30, Integer.MAX_VALUE - 1, Integer.MAX_VALUE};
    static final String[] NAMES = {"house", "change", "told", "counts", "right", "split", "join", "lend", "leave",
        "rightOf", "parts", "feed", "vote", "voids", "value", "why", "weather", "sky", "skyOf", "alp", "alpOf", "drive", "home",
        "book", "days", "slope", "slopeOf", "works", "shut", "measure", "cheese", "rest", "fell", "channel", "hour", "gets", "turn",
        "work", "year", "plan", "act", "trace", "taken", "count", "sheet", "cell", "lose", "copy", "say"};
    /** What a run is mostly about. */
    static final String[][] THEMES = {{}, {"drive", "home", "days", "measure", "cheese", "rest", "plan"},
        {"weather", "days", "slopeOf", "works", "fell", "shut"}, {"right", "split", "join", "lend", "leave", "channel", "gets", "hour", "days"},
        {"say", "drive", "home", "voids", "why", "days"}, {"year", "work", "turn", "days", "say"},
        {"sheet", "cell", "lose", "copy", "sky", "skyOf"}};
    private static final String[] FIELDS = {"cows", "hay", "heads", "hearths", "year", "season"};
    private static final String[] KEYS = {"rate", "feet", "from", "till", "heads", "fine", "lot", "watch"};

    private static long seed;
    static AlpCommune x;
    static Model y;
    static int calls;
    private static int wildness;
    private static List<String> said;

    public static void main(String[] args) {
        for (int run = 0; run < RUNS; run++) run(run);
        Check.end();
    }

    private static int random(int n) {
        seed = seed * 6364136223846793005L + 1442695040888963407L;
        return (int) ((seed >>> 33) % n);
    }

    /** A number from least to most, or now and then a wild one. */
    private static int num(int least, int most) {
        if (random(100) < wildness) {
            switch (random(4)) {
                case 0: return least - 1;
                case 1: return most + 1;
                default: return WILD[random(WILD.length)];
            }
        }
        return random(8) == 0 ? (random(2) == 0 ? least : most) : least + random(Math.max(1, most - least + 1));
    }

    private static int some(int count) {
        return num(0, Math.max(0, count - 1));
    }

    /** A new commune and a new model, of which nothing was asked. */
    static void anew(int run) {
        seed = run * 7919L + 13;
        x = new AlpCommune();
        y = new Model();
        calls = 0;
        said = new ArrayList<>();
    }

    private static void run(int run) {
        anew(run);
        wildness = new int[] {0, 3, 10, 30}[random(4)];
        int[] weights = new int[NAMES.length];
        int all = 0;
        int theme = random(THEMES.length);
        List<String> about = List.of(THEMES[theme]);
        for (int i = 0; i < weights.length; i++) {
            weights[i] = about.contains(NAMES[i]) ? 10 + random(20) : random(3) == 0 ? random(12) : random(3);
            all += weights[i];
        }
        begin(theme);
        int most = new int[] {200, 350, 470, 480}[random(4)];
        while (calls < most) {
            int at = random(all), call = 0;
            while (at >= weights[call]) at -= weights[call++];
            if (!call(NAMES[call])) return;
        }
        lookAround(run);
    }

    /** Most runs begin with a commune in which much can be done. */
    static void begin(int theme) {
        if (theme == 0 && random(2) == 0) return;
        int wild = wildness;
        wildness = 0;
        boolean full = theme == 0;
        for (int i = full ? 10 : 1 + random(10); i > 0; i--) call("house");
        for (int i = full ? 4 : 1 + random(4); i > 0; i--) call("alp");
        for (int i = full ? 6 : random(7); i > 0; i--) call("slope");
        for (int i = full ? 60 : random(20); i > 0; i--) call("right");
        for (int i = full ? 40 : 0; i > 0; i--) word(KEYS[random(8)] + " " + random(9) + (random(2) == 0 ? "" : " if " + test()), -1);
        for (int i = random(20); i > 0; i--) call("weather");
        call("counts");
        boolean free = theme == 1 || theme == 4;
        if (free || random(2) == 0) word("feet " + random(2), -1);
        if (free || random(2) == 0) word("rate " + random(2), -1);
        if (free || random(2) == 0) word("from 0", -1);
        if (free || random(2) == 0) word("till 400", -1);
        if (theme == 2) coldDays();
        if (random(20) == 0) for (int i = 0; i < 59; i++) same("days(120)", x.days(120), y.days(120));
        else for (int i = random(3); i > 0; i--) call("days");
        wildness = wild;
    }

    private static void coldDays() {
        for (int i = 60 + random(60); i > 0; i--) {
            int day = random(150), warm = random(14) - 9, fall = random(3) == 0 ? 0 : random(40);
            same("weather(" + day + ", 0, " + warm + ")", x.weather(day, 0, warm), y.weather(day, 0, warm));
            same("weather(" + day + ", 1, " + fall + ")", x.weather(day, 1, fall), y.weather(day, 1, fall));
        }
    }

    static boolean same(String call, int got, int want) {
        calls++;
        said.add(call + " = " + want);
        Check.due(call, got, want);
        if (got == want) return true;
        int from = Math.max(0, said.size() - 40);
        System.out.println("  of a run whose last calls are due: " + said.subList(from, said.size()));
        return false;
    }

    private static String test() {
        String[] than = {"" + random(20), "" + random(400), "" + random(100000)};
        return (random(4) == 0 ? "not " : "") + FIELDS[random(6)] + "<=>".charAt(random(3)) + than[random(3)];
    }

    private static char anyOf(String signs) {
        return signs.charAt(random(signs.length()));
    }

    private static String text() {
        String number = "" + (random(2) == 0 ? random(20) : random(3) == 0 ? random(100000) : random(400));
        StringBuilder text = new StringBuilder(KEYS[random(8)] + " " + number);
        if (random(3) > 0) {
            text.append(random(2) == 0 ? " if " : " unless ").append(test());
            for (int i = random(5); i > 0; i--) text.append(random(2) == 0 ? " and " : " or ").append(test());
        }
        if (random(5) == 0) {
            int at = random(text.length());
            switch (random(3)) {
                case 0: text.setLength(at); break;
                case 1: text.setCharAt(at, anyOf(" abcdefghijklmnopqrstuwy0123456789<=>\u00e9")); break;
                default: text.insert(at, anyOf(" anorifu3<"));
            }
        }
        return text.toString();
    }

    private static boolean word(String text, int yes) {
        boolean all = true;
        for (int i = 0; i < text.length(); i += 4) {
            int n = Math.min(4, text.length() - i), bytes = random(3) == 0 ? -1 : 0;
            for (int j = 0; j < n; j++) bytes = bytes << 8 | text.charAt(i + j);
            all &= same("feed(" + bytes + ", " + n + ")", x.feed(bytes, n), y.feed(bytes, n));
        }
        int set = yes == -1 ? (1 << y.houses.size()) - 1 : yes;
        return all & same("vote(" + set + ", 0) on " + text, x.vote(set, 0), y.vote(set, 0));
    }

    private static int set() {
        return num(0, (1 << y.houses.size()) - 1);
    }

    private static boolean call(String name) {
        int h = some(y.houses.size()), r = some(y.rights.size()), a = some(y.alps.size()), s = some(y.slopes.size());
        int i, j, k, l;
        switch (name) {
            case "house":
                i = num(1, 9);
                j = num(1, 20);
                k = random(4) == 0 ? num(0, 99) : num(0, 30);
                l = num(0, random(2) == 0 ? 99999 : 3000);
                return same("house(" + i + ", " + j + ", " + k + ", " + l + ")", x.house(i, j, k, l), y.house(i, j, k, l));
            case "change":
                j = num(0, 3);
                k = num(0, new int[] {9, 20, 99, 99999, 9}[j < 0 || j > 3 ? 4 : j]);
                return same("change(" + h + ", " + j + ", " + k + ")", x.change(h, j, k), y.change(h, j, k));
            case "told":
                i = num(0, 12);
                return same("told(" + h + ", " + i + ")", x.told(h, i), y.told(h, i));
            case "counts":
                return same("counts()", x.counts(), y.counts());
            case "right":
                i = num(0, 5);
                j = num(1, random(2) == 0 ? 999 : 9);
                return same("right(" + h + ", " + i + ", " + j + ")", x.right(h, i, j), y.right(h, i, j));
            case "split":
                i = num(1, 20);
                return same("split(" + r + ", " + i + ")", x.split(r, i), y.split(r, i));
            case "join":
                i = some(y.rights.size());
                return same("join(" + r + ", " + i + ")", x.join(r, i), y.join(r, i));
            case "lend":
                i = num(y.day + 1, Math.min(7199, y.day + 1 + random(200)));
                return same("lend(" + r + ", " + h + ", " + i + ")", x.lend(r, h, i), y.lend(r, h, i));
            case "leave":
                return same("leave(" + r + ", " + h + ")", x.leave(r, h), y.leave(r, h));
            case "rightOf":
                i = num(0, 5);
                return same("rightOf(" + r + ", " + i + ")", x.rightOf(r, i), y.rightOf(r, i));
            case "parts":
                i = random(3) == 0 ? -1 : h;
                j = num(0, 2);
                return same("parts(" + i + ", " + j + ")", x.parts(i, j), y.parts(i, j));
            case "feed":
                if (random(3) > 0) return true;
                i = num(0, 1 << 30);
                j = num(0, 4);
                return same("feed(" + i + ", " + j + ")", x.feed(i, j), y.feed(i, j));
            case "vote":
                i = set();
                j = set();
                return same("vote(" + i + ", " + j + ")", x.vote(i, j), y.vote(i, j));
            case "say":
                return word(text(), random(5) == 0 ? set() : -1);
            case "voids":
                i = some(y.words.size());
                return same("voids(" + i + ")", x.voids(i), y.voids(i));
            case "value":
            case "why":
                i = num(0, 7);
                j = random(2) == 0 ? y.day : num(0, y.day + 400);
                k = random(2) == 0 ? y.day : num(0, y.day + 10);
                String asked = "(" + h + ", " + i + ", " + j + ", " + k + ")";
                return same("why" + asked, x.why(h, i, j, k), y.why(h, i, j, k))
                    && same("value" + asked, x.value(h, i, j, k), y.value(h, i, j, k));
            case "weather":
                i = random(3) == 0 ? num(0, 7199) : num(Math.max(0, y.day - 5), Math.min(7199, y.day + 200));
                j = num(0, 1);
                k = j == 1 ? num(0, random(2) == 0 ? 200 : 40) : random(2) == 0 ? num(-40, 40) : num(-9, 12);
                return same("weather(" + i + ", " + j + ", " + k + ")", x.weather(i, j, k), y.weather(i, j, k));
            case "sky":
                i = random(3) == 0 ? num(0, 7199) : num(y.day, Math.min(7199, y.day + 100));
                j = num(0, 1);
                k = num(0, 2);
                l = num(0, 20);
                int many = num(0, 30);
                return same("sky(" + i + ", " + j + ", " + k + ", " + l + ", " + many + ")", x.sky(i, j, k, l, many),
                    y.sky(i, j, k, l, many));
            case "skyOf":
                i = random(2) == 0 ? num(0, 7199) : num(y.day, Math.min(7199, y.day + 200));
                j = num(0, 1);
                return same("skyOf(" + i + ", " + j + ")", x.skyOf(i, j), y.skyOf(i, j));
            case "alp":
                i = random(2) == 0 ? 0 : num(0, 3);
                j = num(1, 99);
                return same("alp(" + i + ", " + j + ")", x.alp(i, j), y.alp(i, j));
            case "alpOf":
                i = num(0, 15);
                return same("alpOf(" + a + ", " + i + ")", x.alpOf(a, i), y.alpOf(a, i));
            case "drive":
                i = num(1, random(3) == 0 ? 99 : 9);
                return same("drive(" + h + ", " + a + ", " + i + ")", x.drive(h, a, i), y.drive(h, a, i));
            case "home":
                i = num(1, 9);
                return same("home(" + h + ", " + a + ", " + i + ")", x.home(h, a, i), y.home(h, a, i));
            case "book":
                i = some(y.drives.size());
                j = num(0, 5);
                return same("book(" + i + ", " + j + ")", x.book(i, j), y.book(i, j));
            case "days":
                i = random(3) == 0 ? num(1, 120) : random(2) == 0 ? 1 : num(1, 10);
                return same("days(" + i + ")", x.days(i), y.days(i));
            case "slope":
                i = random(3) == 0 ? num(0, 400) : num(0, 60);
                return same("slope(" + i + ")", x.slope(i), y.slope(i));
            case "slopeOf":
                i = num(0, 16);
                return same("slopeOf(" + s + ", " + i + ")", x.slopeOf(s, i), y.slopeOf(s, i));
            case "works":
                boolean is = random(2) == 0;
                return same("works(" + s + ", " + is + ")", x.works(s, is), y.works(s, is));
            case "shut":
                boolean shut = random(2) == 0;
                return same("shut(" + shut + ")", x.shut(shut), y.shut(shut));
            case "measure":
                return same("measure()", x.measure(), y.measure());
            case "cheese":
                i = random(4) == 0 ? num(0, 9999) : num(0, 12);
                return same("cheese(" + i + ")", x.cheese(i), y.cheese(i));
            case "rest":
                return same("rest(" + h + ")", x.rest(h), y.rest(h));
            case "fell":
                return same("fell(" + s + ", " + h + ")", x.fell(s, h), y.fell(s, h));
            case "channel":
                i = num(0, y.channel.size());
                j = num(0, 100);
                return same("channel(" + i + ", " + h + ", " + j + ")", x.channel(i, h, j), y.channel(i, h, j));
            case "hour":
                i = num(0, random(2) == 0 ? 3000 : 60);
                return same("hour(" + i + ")", x.hour(i), y.hour(i));
            case "gets":
                i = num(0, random(2) == 0 ? 3000 : 60);
                j = num(0, 10000);
                return same("gets(" + h + ", " + i + ", " + j + ")", x.gets(h, i, j), y.gets(h, i, j));
            case "turn":
                i = num(0, 2);
                return same("turn(" + i + ")", x.turn(i), y.turn(i));
            case "work":
                i = num(1, random(2) == 0 ? 999 : 9);
                return same("work(" + h + ", " + i + ")", x.work(h, i), y.work(h, i));
            case "year":
                return same("year()", x.year(), y.year());
            case "plan":
                i = set();
                while (random(3) > 0 && Integer.bitCount(i) > 3) i &= i - 1;
                j = num(1, random(2) == 0 ? 30 : 5);
                k = num(0, Math.min(5, Integer.bitCount(i)));
                return same("plan(" + i + ", " + j + ", " + k + ")", x.plan(i, j, k), y.plan(i, j, k));
            case "act":
                i = num(0, 2);
                j = random(2) == 0 ? num(-100, 100) : num(Integer.MIN_VALUE / 2, Integer.MAX_VALUE / 2);
                return same("act(" + r + ", " + i + ", " + j + ")", x.act(r, i, j), y.act(r, i, j));
            case "trace":
                i = num(0, 9);
                return same("trace(" + i + ")", x.trace(i), y.trace(i));
            case "taken":
                i = num(0, 5);
                return same("taken(" + r + ", " + i + ")", x.taken(r, i), y.taken(r, i));
            case "count":
                i = num(0, 14);
                return same("count(" + i + ")", x.count(i), y.count(i));
            case "sheet":
                i = num(0, 2);
                j = random(2) == 0 ? 2 : num(-1, 2);
                k = num(0, 60);
                return same("sheet(" + i + ", " + j + ", " + k + ")", x.sheet(i, j, k), y.sheet(i, j, k));
            case "cell":
                i = num(0, 2);
                j = num(0, random(2) == 0 ? 60 : 20);
                k = num(-200, random(2) == 0 ? 200 : 850);
                return same("cell(" + i + ", " + j + ", " + k + ")", x.cell(i, j, k), y.cell(i, j, k));
            case "lose":
                i = num(0, 2);
                j = num(0, 20);
                return same("lose(" + i + ", " + j + ")", x.lose(i, j), y.lose(i, j));
            case "copy":
                i = num(0, 2);
                j = num(0, 2);
                k = num(0, 20);
                l = num(0, 20);
                int n = num(0, 20);
                return same("copy(" + i + ", " + k + ", " + j + ", " + l + ", " + n + ")", x.copy(i, k, j, l, n), y.copy(i, k, j, l, n));
            default:
                throw new IllegalArgumentException(name);
        }
    }

    /** An object is for 512 calls. */
    private static boolean more() {
        return calls < MOST_CALLS;
    }

    /** At a run's end all that can be asked without changing anything is asked, as far as there are calls for it. */
    private static void lookAround(int run) {
        for (int i = 0; i < 6; i++) look((run + i) % 6);
    }

    private static void look(int at) {
        switch (at) {
            case 0:
                for (int what = -1; what <= 15 && more(); what++) same("count(" + what + ")", x.count(what), y.count(what));
                for (int i = 0; i < 21 && more(); i++) same("trace(" + i + ")", x.trace(i), y.trace(i));
                return;
            case 1:
                for (int h = 0; h < y.houses.size(); h++) {
                    for (int what = 0; what <= 12 && more(); what++) same("told(" + h + ", " + what + ")", x.told(h, what), y.told(h, what));
                    if (more()) same("rest(" + h + ")", x.rest(h), y.rest(h));
                }
                return;
            case 2:
                for (int r = 0; r < y.rights.size(); r++) {
                    for (int what = 0; what <= 5 && more(); what++) same("rightOf(" + r + ", " + what + ")", x.rightOf(r, what), y.rightOf(r, what));
                }
                return;
            case 3:
                for (int a = 0; a < y.alps.size(); a++) {
                    for (int what = 0; what <= 15 && more(); what++) same("alpOf(" + a + ", " + what + ")", x.alpOf(a, what), y.alpOf(a, what));
                }
                return;
            case 4:
                for (int s = 0; s < y.slopes.size(); s++) {
                    for (int what = 0; what <= 16 && more(); what++) same("slopeOf(" + s + ", " + what + ")", x.slopeOf(s, what), y.slopeOf(s, what));
                }
                return;
            default:
                for (int i = 0; i < y.drives.size(); i++) {
                    for (int what = 0; what <= 5 && more(); what++) same("book(" + i + ", " + what + ")", x.book(i, what), y.book(i, what));
                }
        }
    }
}
