import java.math.BigInteger;
import java.util.ArrayList;
import java.util.Arrays;
import java.util.List;
import java.util.Map;
import java.util.TreeMap;
import java.util.regex.Matcher;
import java.util.regex.Pattern;

/**
 * The document read a second time, as plainly as can be and with all of Java: cows one by one, plans all lived,
 * words by a pattern, days as lists. It is slow, and here only to be compared with AlpCommune.
 */
final class Model {
    static final int NONE = -1, BAD = -2, STATE = -3, FULL = -4;

    static final class House {
        int hearths, heads, cows, hay, debt, hungry, milk, sum, counted, wheels, logs, done, rest;
        int[] up = new int[4];

        House copy() {
            House c = new House();
            c.cows = cows;
            c.up = up.clone();
            return c;
        }

        int allUp() {
            return Arrays.stream(up).sum();
        }

        int home() {
            return cows - allUp();
        }
    }

    static final class Right {
        int kind, owner, parts, lentTo = -1, till = -1;
    }

    static final class Word {
        int key, number, day, voidDay = -1;
        boolean unless;
        /** Rows of ands, of which one has to hold. */
        List<List<String>> tests = new ArrayList<>();
    }

    static final class Alp {
        int height, area, grass, snow;

        Alp copy() {
            Alp c = new Alp();
            c.height = height;
            c.area = area;
            c.grass = grass;
            c.snow = snow;
            return c;
        }
    }

    static final class Layer {
        int depth;
        boolean soft;
    }

    static final class Slope {
        int age, slid;
        boolean works;
        List<Layer> layers = new ArrayList<>();

        int bears(int age) {
            return 40 + age / 5 + (works ? 30 : 0);
        }

        int over(int i) {
            int all = 0;
            for (int j = i + 1; j < layers.size(); j++) all += layers.get(j).depth;
            return all;
        }

        int risk(int age) {
            for (int i = 0; i < layers.size(); i++) if (layers.get(i).soft) return (int) (100L * over(i) / bears(age));
            return 0;
        }
    }

    final List<House> houses = new ArrayList<>();
    final List<Right> rights = new ArrayList<>();
    final List<Word> words = new ArrayList<>();
    final List<Alp> alps = new ArrayList<>();
    final List<Slope> slopes = new ArrayList<>();
    final List<int[]> drives = new ArrayList<>();
    final List<int[]> channel = new ArrayList<>();
    final List<TreeMap<Integer, Integer>> sky = List.of(new TreeMap<>(), new TreeMap<>());
    final List<Integer> trace = new ArrayList<>();
    final Object[] sheets = new Object[3];
    String tape = "";
    int day, slides, missed, vain, wheels, logs, watched;
    boolean shut, measured = true;
    int toldYear = -1;
    final int[] had = {-1, -1, -1};

    private boolean is(List<?> list, int i) {
        return 0 <= i && i < list.size();
    }

    private static boolean in(long v, long least, long most) {
        return least <= v && v <= most;
    }

    // houses, rights

    int house(int hearths, int heads, int cows, int hay) {
        if (!in(hearths, 1, 9) || !in(heads, 1, 20) || !in(cows, 0, 99) || !in(hay, 0, 99999)) return BAD;
        if (houses.size() == 10) return FULL;
        House h = new House();
        h.hearths = hearths;
        h.heads = heads;
        h.cows = cows;
        h.hay = hay;
        houses.add(h);
        return houses.size() - 1;
    }

    int change(int house, int what, int v) {
        if (!is(houses, house)) return NONE;
        House h = houses.get(house);
        int was;
        switch (what) {
            case 0:
                if (!in(v, 1, 9)) return BAD;
                was = h.hearths;
                h.hearths = v;
                return was;
            case 1:
                if (!in(v, 1, 20)) return BAD;
                was = h.heads;
                h.heads = v;
                return was;
            case 2:
                if (!in(v, h.allUp(), 99)) return BAD;
                was = h.cows;
                h.cows = v;
                return was;
            case 3:
                if (!in(v, 0, 99999)) return BAD;
                was = h.hay;
                h.hay = v;
                return was;
            default:
                return NONE;
        }
    }

    int told(int house, int what) {
        if (!is(houses, house) || !in(what, 0, 12)) return -5;
        House h = houses.get(house);
        return new int[] {h.hearths, h.heads, h.cows, h.hay, h.debt, h.home(), h.hungry, h.milk, h.sum, h.counted,
            h.wheels, h.logs, h.done}[what];
    }

    int counts() {
        for (House h : houses) h.counted = h.hay;
        return houses.stream().mapToInt(h -> h.counted).sum();
    }

    int right(int house, int kind, int parts) {
        if (!is(houses, house)) return NONE;
        if (!List.of(0, 1, 2, 3, 5).contains(kind) || !in(parts, 1, 999)) return BAD;
        if (rights.size() == 50) return FULL;
        return addRight(house, kind, parts);
    }

    private int addRight(int house, int kind, int parts) {
        Right r = new Right();
        r.kind = kind;
        r.owner = house;
        r.parts = parts;
        rights.add(r);
        return rights.size() - 1;
    }

    private int common(Right r) {
        return r.kind == 1 || r.kind == 4 ? 0 : r.kind == 2 ? 1 : r.kind == 3 ? 2 : -1;
    }

    private boolean lent(Right r) {
        return r.till > day;
    }

    private int holds(Right r) {
        return lent(r) ? r.lentTo : r.owner;
    }

    int split(int right, int n) {
        if (!is(rights, right)) return NONE;
        Right r = rights.get(right);
        if (n < 1 || n > r.parts - 1) return BAD;
        if (common(r) == -1 || lent(r)) return STATE;
        if (rights.size() == 50) return FULL;
        r.parts -= n;
        return addRight(r.owner, r.kind == 1 || r.kind == 4 ? 4 : r.kind, n);
    }

    int join(int right, int other) {
        if (!is(rights, right) || !is(rights, other)) return NONE;
        if (right == other) return BAD;
        Right r = rights.get(right), o = rights.get(other);
        boolean alike = common(r) != -1 && common(r) == common(o) && r.owner == o.owner;
        if (!alike || lent(r) || lent(o) || r.parts == 0 || o.parts == 0) return STATE;
        o.parts += r.parts;
        r.parts = 0;
        return o.parts;
    }

    int lend(int right, int house, int till) {
        if (!is(rights, right) || !is(houses, house)) return NONE;
        if (till <= day || till > 7199) return BAD;
        Right r = rights.get(right);
        if (lent(r) || r.owner == house || r.kind == 5) return STATE;
        r.lentTo = house;
        r.till = till;
        return 1;
    }

    int leave(int right, int house) {
        if (!is(rights, right) || !is(houses, house)) return NONE;
        Right r = rights.get(right);
        if (r.kind == 5) return STATE;
        int was = r.owner;
        r.owner = house;
        return was;
    }

    int rightOf(int right, int what) {
        if (!is(rights, right) || !in(what, 0, 5)) return -5;
        Right r = rights.get(right);
        return new int[] {r.kind, r.owner, r.parts, holds(r), common(r), lent(r) ? r.till : -1}[what];
    }

    int parts(int house, int common) {
        if (house != -1 && !is(houses, house) || !in(common, 0, 2)) return NONE;
        return rights.stream().filter(r -> common(r) == common && (house == -1 || holds(r) == house)).mapToInt(r -> r.parts).sum();
    }

    // words

    private static final List<String> KEYS = List.of("rate", "feet", "from", "till", "heads", "fine", "lot", "watch");
    private static final String TEST = "(?:not )?(?:cows|hay|heads|hearths|year|season)[<=>][0-9]{1,5}";
    private static final Pattern WORD = Pattern.compile("(rate|feet|from|till|heads|fine|lot|watch) ([0-9]{1,5})"
        + "(?: (if|unless) (" + TEST + "(?: (?:and|or) " + TEST + "){0,3}))?");

    int feed(int bytes, int n) {
        if (!in(n, 0, 4)) return BAD;
        if (tape.length() + n > 100) return FULL;
        for (int i = n - 1; i >= 0; i--) tape += (char) (bytes >>> 8 * i & 255);
        return tape.length();
    }

    private static boolean beginsSo(String text) {
        Matcher m = WORD.matcher(text);
        return m.matches() || m.hitEnd();
    }

    int vote(int yes, int no) {
        int all = (1 << houses.size()) - 1;
        if ((yes | no | all) != all) return BAD;
        if (words.size() == 40) return FULL;
        String text = tape;
        tape = "";
        Matcher m = WORD.matcher(text);
        if (!m.matches()) {
            int fault = 0;
            while (fault < text.length() && beginsSo(text.substring(0, fault + 1))) fault++;
            return -10 - fault;
        }
        int ayes = 0, noes = 0, both = 0;
        for (int h = 0; h < houses.size(); h++) {
            if ((yes >> h & 1) == 1) ayes++;
            if ((no >> h & 1) == 1) noes++;
            if ((yes >> h & no >> h & 1) == 1) both++;
        }
        if (ayes <= noes || ayes + noes < houses.size() / 2.0 || both > 0) return STATE;
        Word w = new Word();
        w.key = KEYS.indexOf(m.group(1));
        w.number = Integer.parseInt(m.group(2));
        w.day = day;
        w.unless = "unless".equals(m.group(3));
        if (m.group(4) != null) for (String ands : m.group(4).split(" or ")) w.tests.add(List.of(ands.split(" and ")));
        words.add(w);
        return words.size() - 1;
    }

    private boolean passes(String test, House h, int a) {
        if (test.startsWith("not ")) return !passes(test.substring(4), h, a);
        String[] sides = test.split("[<=>]");
        int has;
        switch (sides[0]) {
            case "cows": has = h.cows; break;
            case "hay": has = h.hay; break;
            case "heads": has = h.heads; break;
            case "hearths": has = h.hearths; break;
            case "year": has = a / 360; break;
            default: has = a % 360;
        }
        int order = Integer.compare(has, Integer.parseInt(sides[1]));
        return test.contains("<") ? order < 0 : test.contains("=") ? order == 0 : order > 0;
    }

    private boolean holds(Word w, House h, int a) {
        if (w.tests.isEmpty()) return true;
        return w.unless != w.tests.stream().anyMatch(ands -> ands.stream().allMatch(t -> passes(t, h, a)));
    }

    int why(int house, int key, int a, int k) {
        if (!is(houses, house) || !in(key, 0, 7) || a < 0 || k < 0) return -5;
        int latest = -1;
        for (int i = 0; i < words.size(); i++) {
            Word w = words.get(i);
            boolean isVoid = w.voidDay != -1 && w.voidDay <= k;
            if (w.key == key && w.day <= a && w.day <= k && !isVoid && holds(w, houses.get(house), a)) latest = i;
        }
        return latest;
    }

    int value(int house, int key, int a, int k) {
        int why = why(house, key, a, k);
        return why == -5 ? -5 : why == -1 ? new int[] {30, 4, 150, 270, 2, 5, 3, 1}[key] : words.get(why).number;
    }

    private int now(House h, String key) {
        return value(houses.indexOf(h), KEYS.indexOf(key), day, day);
    }

    int voids(int word) {
        if (!is(words, word)) return NONE;
        if (words.get(word).voidDay != -1) return STATE;
        words.get(word).voidDay = day;
        return (int) drives.stream().limit(200).filter(d -> d[4] == word || d[5] == word).count();
    }

    // days

    int weather(int day, int what, int v) {
        if (!in(day, 0, 7199) || !in(what, 0, 1)) return NONE;
        if (what == 0 ? !in(v, -40, 40) : !in(v, 0, 200)) return BAD;
        sky.get(what).put(day, v);
        return 1;
    }

    int sky(int day, int what, int sheet, int i, int n) {
        if (!in(day, 0, 7199) || !in(what, 0, 1) || !in(sheet, 0, 2)) return NONE;
        if (n < 0 || (long) day + n - 1 > 7199) return BAD;
        if (n == 0) return 0;
        if (sheets[sheet] != null && !(sheets[sheet] instanceof float[])) return -13;
        if (sheets[sheet] == null) return -11;
        float[] row = (float[]) sheets[sheet];
        if (i < 0 || (long) i + n > row.length) return -12;
        int told = 0;
        for (int j = 0; j < n; j++) {
            float f = row[i + j];
            if (!Float.isNaN(f) && weather(day + j, what, (int) f) == 1) told++;
        }
        return told;
    }

    int skyOf(int day, int what) {
        if (!in(day, 0, 7199) || !in(what, 0, 1)) return -1000;
        Map.Entry<Integer, Integer> entry = sky.get(what).floorEntry(day);
        return entry != null ? entry.getValue() : what == 0 ? 5 : 0;
    }

    int alp(int height, int area) {
        if (!in(height, 0, 3) || !in(area, 1, 99)) return BAD;
        if (alps.size() == 4) return FULL;
        Alp a = new Alp();
        a.height = height;
        a.area = area;
        alps.add(a);
        return alps.size() - 1;
    }

    int alpOf(int alp, int what) {
        if (!is(alps, alp)) return -5;
        Alp a = alps.get(alp);
        if (what == 0) return a.height;
        if (what == 1) return a.area;
        if (what == 2) return a.grass;
        if (what == 3) return a.snow;
        if (what == 4) return houses.stream().mapToInt(h -> h.up[alp]).sum();
        return what >= 5 && is(houses, what - 5) ? houses.get(what - 5).up[alp] : -5;
    }

    private boolean inSeason(House h) {
        int season = day % 360;
        return !(season < now(h, "from")) && season < now(h, "till");
    }

    int drive(int house, int alp, int n) {
        if (!is(houses, house) || !is(alps, alp)) return NONE;
        if (!in(n, 1, 99)) return BAD;
        House h = houses.get(house);
        if (h.home() < n) return -21;
        if (!inSeason(h)) return -22;
        int with = h.allUp() + n, rate = now(h, "rate");
        if ((long) with * now(h, "feet") > parts(house, 0)) return -23;
        if (rate != 0 && with > h.counted / rate) return -24;
        drives.add(new int[] {day, house, alp, n, why(house, 1, day, day), why(house, 0, day, day)});
        return h.up[alp] += n;
    }

    int home(int house, int alp, int n) {
        if (!is(houses, house) || !is(alps, alp)) return NONE;
        House h = houses.get(house);
        if (!in(n, 1, 99) || h.up[alp] < n) return BAD;
        return h.up[alp] -= n;
    }

    int book(int i, int what) {
        if (!is(drives, i) || i > 199 || !in(what, 0, 5)) return -5;
        return drives.get(i)[what];
    }

    /** (a) and (b) of a day: what each house's hungry and milk are of it. */
    private void liveAlps(List<Alp> alps, List<House> houses, int day) {
        for (House h : houses) h.milk = 0;
        for (int i = 0; i < alps.size(); i++) {
            Alp a = alps.get(i);
            int w = skyOf(day, 0) - 5 * a.height;
            if (w <= 2) a.snow += skyOf(day, 1);
            else a.snow = a.snow > 2 * w ? a.snow - 2 * w : 0;
            if (a.snow == 0 && w > 0) a.grass = Math.min(10 * a.area, a.grass + (w < 20 ? w : 20) * a.area / 10);
        }
        for (int i = 0; i < alps.size(); i++) {
            for (House h : houses) {
                for (int cow = 0; cow < h.up[i]; cow++) {
                    if (alps.get(i).grass >= 3) {
                        alps.get(i).grass -= 3;
                        h.milk += 8;
                    } else {
                        h.hungry++;
                    }
                }
            }
        }
    }

    private int owe(House h, long coins) {
        int before = h.debt;
        h.debt = (int) Math.min(99999999L, h.debt + coins);
        return h.debt - before;
    }

    int days(int n) {
        if (!in(n, 1, 120) || day + n > 7199) return BAD;
        for (int i = 0; i < n; i++) live();
        return day;
    }

    private void live() {
        liveAlps(alps, houses, day);
        int season = day % 360;
        for (House h : houses) {
            int home = season < 120 || season >= 300 ? h.home() : 0;
            for (int cow = 0; cow < home; cow++) {
                if (h.hay > 0) h.hay--;
                else h.hungry++;
            }
        }
        for (House h : houses) if (!inSeason(h)) owe(h, (long) now(h, "fine") * h.allUp());
        int slid = 0;
        for (Slope s : slopes) if (liveSlope(s)) slid++;
        slides += slid;
        if (!shut) missed += slid;
        if (shut && slid == 0) vain++;
        if (day % 360 == 0) for (Slope s : slopes) if (s.age < 400) s.age++;
        measured = false;
        day++;
    }

    private boolean liveSlope(Slope s) {
        int warm = skyOf(day, 0), fall = skyOf(day, 1);
        if (fall > 0 && warm <= 2) {
            Layer l = new Layer();
            l.depth = fall;
            l.soft = warm > -5;
            s.layers.add(l);
        }
        if (s.layers.size() > 6) {
            Layer low = s.layers.remove(0);
            s.layers.get(0).depth += low.depth;
            s.layers.get(0).soft |= low.soft;
        }
        if (warm > 2 && !s.layers.isEmpty()) {
            Layer top = s.layers.get(s.layers.size() - 1);
            top.depth -= 3 * warm;
            if (top.depth <= 0) s.layers.remove(top);
        }
        for (int i = 0; i < s.layers.size(); i++) {
            if (s.layers.get(i).soft && s.over(i) >= s.bears(s.age)) {
                s.layers = new ArrayList<>(s.layers.subList(0, i));
                if (s.age < 40) s.age = 0;
                s.slid++;
                return true;
            }
        }
        return false;
    }

    // slopes

    int slope(int age) {
        if (!in(age, 0, 400)) return BAD;
        if (slopes.size() == 6) return FULL;
        Slope s = new Slope();
        s.age = age;
        slopes.add(s);
        return slopes.size() - 1;
    }

    int slopeOf(int slope, int what) {
        if (!is(slopes, slope)) return -500;
        Slope s = slopes.get(slope);
        switch (what) {
            case 0: return s.age;
            case 1: return s.works ? 1 : 0;
            case 2: return s.layers.size();
            case 3: return s.over(-1);
            case 4: return s.risk(s.age);
            case 5: return s.bears(s.age);
            case 6: return s.slid;
            default:
                if (what < 10 || !is(s.layers, what - 10)) return -500;
                Layer l = s.layers.get(what - 10);
                return l.soft ? -l.depth : l.depth;
        }
    }

    int works(int slope, boolean is) {
        if (!is(slopes, slope)) return NONE;
        boolean was = slopes.get(slope).works;
        slopes.get(slope).works = is;
        return was == is ? 0 : 1;
    }

    int shut(boolean is) {
        boolean was = shut;
        shut = is;
        return was == is ? 0 : 1;
    }

    // cheese, wood, water

    int measure() {
        if (day == 0 || measured) return STATE;
        measured = true;
        int all = 0;
        for (House h : houses) {
            h.sum += h.milk;
            all += h.milk;
        }
        return all;
    }

    int cheese(int n) {
        if (!in(n, 0, 9999)) return BAD;
        int sums = houses.stream().mapToInt(h -> h.sum).sum(), given = 0;
        if (sums == 0) return 0;
        int[] got = new int[houses.size()];
        for (int i = 0; i < got.length; i++) {
            House h = houses.get(i);
            h.rest += BigInteger.valueOf(n).multiply(BigInteger.valueOf(h.sum)).multiply(BigInteger.valueOf(10000))
                .divide(BigInteger.valueOf(sums)).intValueExact();
            while (h.rest >= 10000) {
                h.rest -= 10000;
                got[i]++;
                given++;
            }
        }
        while (given < n) {
            int best = 0;
            for (int i = 0; i < got.length; i++) if (houses.get(i).rest > houses.get(best).rest) best = i;
            houses.get(best).rest -= 10000;
            got[best]++;
            given++;
        }
        while (given > n) {
            int least = -1;
            for (int i = got.length - 1; i >= 0; i--) {
                if (got[i] > 0 && (least == -1 || houses.get(i).rest <= houses.get(least).rest)) least = i;
            }
            houses.get(least).rest += 10000;
            got[least]--;
            given--;
        }
        for (int i = 0; i < got.length; i++) {
            houses.get(i).wheels += got[i];
            houses.get(i).sum = 0;
        }
        wheels += given;
        return given;
    }

    int rest(int house) {
        return is(houses, house) ? houses.get(house).rest : -1000000;
    }

    int fell(int slope, int house) {
        if (!is(slopes, slope) || !is(houses, house)) return NONE;
        Slope s = slopes.get(slope);
        if (s.risk(0) >= 100) return STATE;
        int felled = s.age / 4, left = felled;
        s.age = 0;
        logs += felled;
        int h = house;
        do {
            House of = houses.get(h);
            long most = (long) now(of, "lot") * of.hearths;
            int gets = (int) Math.min(most, left);
            of.logs += gets;
            left -= gets;
            h = h + 1 == houses.size() ? 0 : h + 1;
        } while (h != house);
        for (House of : houses) {
            while (left > 0 && of.debt > 0) {
                left--;
                of.debt--;
            }
        }
        return felled;
    }

    int channel(int i, int house, int leak) {
        if (!in(i, 0, channel.size()) || !is(houses, house)) return NONE;
        if (!in(leak, 0, 100)) return BAD;
        if (i == 10) return FULL;
        if (i < channel.size()) channel.set(i, new int[] {house, leak});
        else channel.add(new int[] {house, leak});
        return channel.size();
    }

    private List<Integer> cycle() {
        List<Integer> hours = new ArrayList<>();
        for (int r = 0; r < rights.size(); r++) {
            for (int i = 0; rights.get(r).kind == 3 && i < rights.get(r).parts; i++) hours.add(r);
        }
        return hours;
    }

    int hour(int h) {
        List<Integer> cycle = cycle();
        if (cycle.isEmpty()) return NONE;
        if (h < 0) return BAD;
        return cycle.get(h % cycle.size());
    }

    int gets(int house, int h, int flow) {
        if (!is(houses, house) || h < 0 || !in(flow, 0, 10000)) return -5;
        int right = hour(h);
        if (right < 0 || holds(rights.get(right)) != house) return 0;
        int comes = flow;
        for (int[] place : channel) {
            comes = comes * (100 - place[1]) / 100;
            if (place[0] == house) return comes;
        }
        return 0;
    }

    // turns, works

    int turn(int kind) {
        if (!in(kind, 0, 2)) return NONE;
        if (kind == 1 && had[1] >= 0 && watched < Math.max(1, now(houses.get(had[1]), "watch"))) {
            watched++;
            return had[1];
        }
        for (int i = 0; i < houses.size(); i++) {
            int next = (had[kind] + 1 + i) % houses.size();
            House h = houses.get(next);
            if (kind == 0 && h.cows == 0 || kind == 2 && h.heads < 3) continue;
            had[kind] = next;
            if (kind == 1) watched = 1;
            return next;
        }
        return NONE;
    }

    int work(int house, int n) {
        if (!is(houses, house)) return NONE;
        if (!in(n, 1, 999)) return BAD;
        return houses.get(house).done += n;
    }

    int year() {
        if (toldYear == day / 360) return STATE;
        toldYear = day / 360;
        int coins = 0;
        for (House h : houses) {
            long owes = (long) now(h, "heads") * h.heads;
            if (h.done < owes) coins += owe(h, (owes - h.done) * now(h, "fine"));
            h.done = 0;
        }
        return coins;
    }

    // plans

    int plan(int set, int n, int what) {
        if (set < 0 || set >= 1 << houses.size() || set == 0 || alps.isEmpty()) return NONE;
        List<Integer> members = new ArrayList<>();
        for (int h = 0; h < houses.size(); h++) if ((set >> h & 1) == 1) members.add(h);
        if (!in(what, 0, members.size())) return NONE;
        if (!in(n, 1, 30) || members.size() > 5 || day + n - 1 > 7199) return BAD;
        int[] best = best(members, 0, new int[members.size()], n);
        return best[what];
    }

    private int[] best(List<Integer> members, int m, int[] on, int n) {
        if (m == members.size()) {
            int[] is = new int[on.length + 1];
            is[0] = hungry(members, on, n);
            System.arraycopy(on, 0, is, 1, on.length);
            return is;
        }
        int[] best = null;
        for (int a = 0; a < alps.size(); a++) {
            on[m] = a;
            int[] is = best(members, m + 1, on, n);
            if (best == null || is[0] < best[0]) best = is;
        }
        return best;
    }

    private int hungry(List<Integer> members, int[] on, int n) {
        List<Alp> lived = new ArrayList<>();
        for (Alp a : alps) lived.add(a.copy());
        List<House> of = new ArrayList<>();
        for (House h : houses) of.add(h.copy());
        for (int m = 0; m < on.length; m++) {
            House h = of.get(members.get(m));
            h.up = new int[4];
            h.up[on[m]] = h.cows;
        }
        for (int d = 0; d < n; d++) liveAlps(lived, of, day + d);
        return of.stream().mapToInt(h -> h.hungry).sum();
    }

    // acts, sheets

    private int holds(Right r, int m, int kind, int x) {
        switch (kind) {
            case 2:
                trace.add(30);
                return holds(r, m, 0, x) * 3;
            case 4:
                trace.add(50);
                return holds(r, m, 1, x) ^ 5;
            case 5:
                trace.add(60);
                return holds(r, m, 0, x) - 7;
            case 0:
                trace.add(10);
                return x + r.parts;
            default:
                return holds(r, m, 0, x);
        }
    }

    private int owes(Right r, int m, int kind, int x) {
        switch (kind) {
            case 1:
                trace.add(20);
                return owes(r, m, 0, x) + m;
            case 4:
                trace.add(51);
                return owes(r, m, 1, x) - r.parts;
            case 0:
                trace.add(11);
                return holds(r, m, r.kind, x) * 2;
            default:
                return owes(r, m, 0, x);
        }
    }

    private int passes(Right r, int m, int kind, int x) {
        switch (kind) {
            case 3:
                trace.add(40);
                return passes(r, m, 0, x + 1);
            case 0:
                trace.add(12);
                return owes(r, m, r.kind, x) ^ holds(r, m, r.kind, x - m);
            default:
                return passes(r, m, 0, x);
        }
    }

    int act(int right, int act, int x) {
        trace.clear();
        if (!is(rights, right) || !in(act, 0, 2)) return 0;
        Right r = rights.get(right);
        return act == 0 ? holds(r, right, r.kind, x) : act == 1 ? owes(r, right, r.kind, x) : passes(r, right, r.kind, x);
    }

    int trace(int i) {
        return is(trace, i) && i < 20 ? trace.get(i) : NONE;
    }

    int taken(int right, int k) {
        if (!in(k, 0, 5)) return BAD;
        if (!is(rights, right)) return -11;
        int kind = rights.get(right).kind;
        return k == 0 || k == kind || k == 1 && kind == 4 ? kind : -13;
    }

    int count(int what) {
        if (!in(what, 0, 14)) return BAD;
        return new int[] {houses.size(), rights.size(), words.size(), day, alps.size(), slopes.size(), drives.size(), slides,
            missed, vain, wheels, logs, tape.length(), shut ? 1 : 0, trace.size()}[what];
    }

    int sheet(int sheet, int sort, int n) {
        if (!in(sheet, 0, 2) || !in(sort, -1, 2) || sort >= 0 && n > 60) return BAD;
        if (sort >= 0 && n < 0) return -14;
        sheets[sheet] = sort == -1 ? null : sort == 0 ? new byte[n] : sort == 1 ? new short[n] : new float[n];
        return 1;
    }

    private int length(Object row) {
        return java.lang.reflect.Array.getLength(row);
    }

    int cell(int sheet, int i, int v) {
        if (!in(sheet, 0, 2)) return BAD;
        if (sheets[sheet] == null) return -11;
        if (!in(i, 0, length(sheets[sheet]) - 1)) return -12;
        if (sheets[sheet] instanceof byte[]) ((byte[]) sheets[sheet])[i] = (byte) v;
        else if (sheets[sheet] instanceof short[]) ((short[]) sheets[sheet])[i] = (short) v;
        else ((float[]) sheets[sheet])[i] = v / 4f;
        return 1;
    }

    int lose(int sheet, int i) {
        if (!in(sheet, 0, 2)) return BAD;
        if (sheets[sheet] == null) return -11;
        if (!(sheets[sheet] instanceof float[])) return -13;
        if (!in(i, 0, length(sheets[sheet]) - 1)) return -12;
        ((float[]) sheets[sheet])[i] = Float.NaN;
        return 1;
    }

    int copy(int sheet, int i, int other, int j, int n) {
        if (!in(sheet, 0, 2) || !in(other, 0, 2)) return BAD;
        if (sheets[sheet] == null || sheets[other] == null) return -11;
        if (sheets[sheet].getClass() != sheets[other].getClass()) return -13;
        if (n < 0 || i < 0 || j < 0) return -12;
        if ((long) i + n > length(sheets[sheet]) || (long) j + n > length(sheets[other])) return -12;
        System.arraycopy(sheets[sheet], i, sheets[other], j, n);
        return n;
    }
}
