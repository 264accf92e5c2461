/**
 * A valley commune: its houses, rights, words, alps, slopes, cheese, wood, water, turns, works and plans.
 * The document (DOC.md) tells what each call does; every call answers with a number and none throws.
 * All rows are made with the object; no call makes any.
 */
public final class AlpCommune {
    public static final int NONE = -1, BAD = -2, STATE = -3, FULL = -4;

    private static final int NO_SUCH = -5, MISSING = -11, OUTSIDE = -12, OTHER_SORT = -13, TOO_SHORT = -14;

    private static final int MOST_HOUSES = 10, MOST_RIGHTS = 50, MOST_WORDS = 40, MOST_ALPS = 4, MOST_SLOPES = 6;
    private static final int MOST_BYTES = 100, MOST_TESTS = 4, MOST_DIGITS = 5, MOST_DRIVES = 200;
    private static final int MOST_LAYERS = 6, MOST_CHANNEL = 10, MOST_BODIES = 20, SHEETS = 3, MOST_ITEMS = 60;
    private static final int LAST_DAY = 7199, YEAR_DAYS = 360, MOST_DAYS = 120;
    private static final int MOST_COWS = 99, MOST_PARTS = 999, MOST_WORKS = 999, MOST_DEBT = 99999999;
    private static final int MOST_WHEELS = 9999, WHOLE_WHEEL = 10000, MOST_FLOW = 10000, OLDEST_WOOD = 400;
    private static final int PLAN_DAYS = 30, PLAN_HOUSES = 5;

    /** What a house has, as change() and told() number it. */
    private static final int HEARTHS = 0, HEADS = 1, COWS = 2, HAY = 3, HAVINGS = 4;

    /** The kinds of rights, and the commons they are of. */
    private static final int RIGHT = 0, COW = 1, WOOD = 2, HOUR = 3, HALF = 4, STRANGE = 5, KINDS = 6;
    private static final int ALPS = 0, WOODS = 1, WATER = 2, COMMONS = 3;

    /** The keys of words. */
    private static final int RATE = 0, FEET = 1, FROM = 2, TILL = 3, OWED = 4, FINE = 5, LOT = 6, WATCH = 7, KEYS = 8;

    private static final int WARM = 0, FALL = 1;
    private static final int HERD = 0, WATCHING = 1, OFFICE = 2, TURNS = 3;
    private static final int BYTES = 0, SHORTS = 1, FLOATS = 2, NO_SORT = -1;

    /** The columns of the book. */
    private static final int DROVE_ON = 0, DROVE_OF = 1, DROVE_UP = 2, DROVE = 3, BY_FEET = 4, BY_RATE = 5, COLUMNS = 6;

    private final House[] houses = new House[MOST_HOUSES];
    private int houseCount;
    private final Rights rights = new Rights();
    private final Words words = new Words();
    private final Sky skies = new Sky();
    private final Alps alps = new Alps();
    private final Way way = new Way();
    private final Channel water = new Channel();
    private final Sheet[] sheets = new Sheet[SHEETS];
    private final int[][] drives = new int[COLUMNS][MOST_DRIVES];
    private int driveCount;
    private int today;
    private boolean milkWaits;
    private int yearTold = -1;
    private final int[] lastTurn = {-1, -1, -1};
    private int watched;
    private final int[] bodies = new int[MOST_BODIES];
    private int bodiesRun;

    public AlpCommune() {
        for (int i = 0; i < MOST_HOUSES; i++) houses[i] = new House();
        for (int i = 0; i < SHEETS; i++) sheets[i] = new Sheet();
    }

    // ---- houses, rights

    public int house(int hearths, int heads, int cows, int hay) {
        if (!House.fits(HEARTHS, hearths) || !House.fits(HEADS, heads)) return BAD;
        if (!House.fits(COWS, cows) || !House.fits(HAY, hay)) return BAD;
        if (houseCount >= MOST_HOUSES) return FULL;
        House h = houses[houseCount];
        h.has[HEARTHS] = hearths;
        h.has[HEADS] = heads;
        h.has[COWS] = cows;
        h.has[HAY] = hay;
        return houseCount++;
    }

    public int change(int house, int what, int v) {
        if (!isHouse(house) || what < 0 || what >= HAVINGS) return NONE;
        House h = houses[house];
        if (!House.fits(what, v) || what == COWS && v < h.allUp()) return BAD;
        int was = h.has[what];
        h.has[what] = v;
        return was;
    }

    public int told(int house, int what) {
        if (!isHouse(house)) return NO_SUCH;
        House h = houses[house];
        switch (what) {
            case 0: return h.has[HEARTHS];
            case 1: return h.has[HEADS];
            case 2: return h.has[COWS];
            case 3: return h.has[HAY];
            case 4: return h.debt;
            case 5: return h.atHome();
            case 6: return h.hungry;
            case 7: return h.milk;
            case 8: return h.sum;
            case 9: return h.counted;
            case 10: return h.wheels;
            case 11: return h.logs;
            case 12: return h.done;
            default: return NO_SUCH;
        }
    }

    public int counts() {
        int all = 0;
        for (int i = 0; i < houseCount; i++) {
            houses[i].counted = houses[i].has[HAY];
            all += houses[i].counted;
        }
        return all;
    }

    public int right(int house, int kind, int parts) {
        if (!isHouse(house)) return NONE;
        if (kind < 0 || kind >= KINDS || kind == HALF || parts < 1 || parts > MOST_PARTS) return BAD;
        if (rights.count >= MOST_RIGHTS) return FULL;
        return rights.enter(kind, house, parts);
    }

    public int split(int right, int n) {
        if (!rights.has(right)) return NONE;
        if (n < 1 || n >= rights.parts[right]) return BAD;
        if (rights.commonOf(right) < 0 || rights.isLent(right, today)) return STATE;
        if (rights.count >= MOST_RIGHTS) return FULL;
        rights.parts[right] -= n;
        int kind = rights.kind[right] == COW ? HALF : rights.kind[right];
        return rights.enter(kind, rights.owner[right], n);
    }

    public int join(int right, int other) {
        if (!rights.has(right) || !rights.has(other)) return NONE;
        if (right == other) return BAD;
        if (!rights.joinable(right, other, today)) return STATE;
        rights.parts[other] += rights.parts[right];
        rights.parts[right] = 0;
        return rights.parts[other];
    }

    public int lend(int right, int house, int day) {
        if (!rights.has(right) || !isHouse(house)) return NONE;
        if (day <= today || day > LAST_DAY) return BAD;
        if (rights.isLent(right, today) || rights.owner[right] == house || rights.kind[right] == STRANGE) return STATE;
        rights.lentTo[right] = house;
        rights.lentTill[right] = day;
        return 1;
    }

    public int leave(int right, int house) {
        if (!rights.has(right) || !isHouse(house)) return NONE;
        if (rights.kind[right] == STRANGE) return STATE;
        int was = rights.owner[right];
        rights.owner[right] = house;
        return was;
    }

    public int rightOf(int right, int what) {
        if (!rights.has(right)) return NO_SUCH;
        switch (what) {
            case 0: return rights.kind[right];
            case 1: return rights.owner[right];
            case 2: return rights.parts[right];
            case 3: return rights.holder(right, today);
            case 4: return rights.commonOf(right);
            case 5: return rights.isLent(right, today) ? rights.lentTill[right] : -1;
            default: return NO_SUCH;
        }
    }

    public int parts(int house, int common) {
        if (common < 0 || common >= COMMONS) return NONE;
        if (house == -1) return rights.whole(common);
        if (!isHouse(house)) return NONE;
        return rights.held(house, common, today);
    }

    private boolean isHouse(int house) {
        return house >= 0 && house < houseCount;
    }

    private boolean areHouses(int set) {
        return set >>> houseCount == 0;
    }

    // ---- words

    public int feed(int bytes, int n) {
        if (n < 0 || n > 4) return BAD;
        if (words.length + n > MOST_BYTES) return FULL;
        for (int i = n - 1; i >= 0; i--) words.append((byte) (bytes >> 8 * i));
        return words.length;
    }

    public int vote(int yes, int no) {
        if (!areHouses(yes) || !areHouses(no)) return BAD;
        if (words.count >= MOST_WORDS) return FULL;
        int fault = words.read();
        words.length = 0;
        if (fault >= 0) return -10 - fault;
        if (!passes(yes, no)) return STATE;
        return words.enter(today);
    }

    private boolean passes(int yes, int no) {
        int ayes = Integer.bitCount(yes), noes = Integer.bitCount(no);
        return ayes > noes && 2 * (ayes + noes) >= houseCount && (yes & no) == 0;
    }

    public int voids(int word) {
        if (!words.has(word)) return NONE;
        if (words.rows[word].isVoid) return STATE;
        words.rows[word].isVoid = true;
        words.rows[word].voidOn = today;
        int by = 0;
        for (int i = 0; i < driveCount && i < MOST_DRIVES; i++) {
            if (drives[BY_FEET][i] == word || drives[BY_RATE][i] == word) by++;
        }
        return by;
    }

    public int value(int house, int key, int a, int k) {
        if (!canAsk(house, key, a, k)) return NO_SUCH;
        return words.worth(words.latest(houses[house], key, a, k), key);
    }

    public int why(int house, int key, int a, int k) {
        if (!canAsk(house, key, a, k)) return NO_SUCH;
        return words.latest(houses[house], key, a, k);
    }

    private boolean canAsk(int house, int key, int a, int k) {
        return isHouse(house) && key >= 0 && key < KEYS && a >= 0 && k >= 0;
    }

    // ---- days

    public int weather(int day, int what, int v) {
        if (!Sky.has(day, what)) return NONE;
        if (!Sky.fits(what, v)) return BAD;
        skies.tell(day, what, v);
        return 1;
    }

    public int sky(int day, int what, int sheet, int i, int n) {
        if (!Sky.has(day, what) || !isSheet(sheet)) return NONE;
        if (n < 0 || n > LAST_DAY + 1 - day) return BAD;
        if (n == 0) return 0;
        Sheet s = sheets[sheet];
        if (s.sort != NO_SORT && s.sort != FLOATS) return OTHER_SORT;
        if (s.sort == NO_SORT) return MISSING;
        if (!s.holds(i, n)) return OUTSIDE;
        int toldDays = 0;
        for (int j = 0; j < n; j++) {
            long item = s.items[i + j];
            // The items are quarters: dividing by 4 cuts towards 0.
            if (item != Sheet.NO_NUMBER && Sky.fits(what, item / 4)) {
                skies.tell(day + j, what, (int) (item / 4));
                toldDays++;
            }
        }
        return toldDays;
    }

    public int skyOf(int day, int what) {
        if (!Sky.has(day, what)) return -1000;
        return skies.on(day, what);
    }

    public int alp(int height, int area) {
        if (height < 0 || height > 3 || area < 1 || area > 99) return BAD;
        if (alps.count >= MOST_ALPS) return FULL;
        return alps.enter(height, area);
    }

    public int alpOf(int alp, int what) {
        if (!alps.has(alp)) return NO_SUCH;
        switch (what) {
            case 0: return alps.height[alp];
            case 1: return alps.area[alp];
            case 2: return alps.grass[alp];
            case 3: return alps.snow[alp];
            case 4: return cowsUpOn(alp, 0);
            default: return what > 4 && isHouse(what - 5) ? houses[what - 5].up[alp] : NO_SUCH;
        }
    }

    /** The cows up on an alp of all houses but those of a set. */
    private int cowsUpOn(int alp, int without) {
        int all = 0;
        for (int i = 0; i < houseCount; i++) {
            if ((without >> i & 1) == 0) all += houses[i].up[alp];
        }
        return all;
    }

    public int drive(int house, int alp, int n) {
        if (!isHouse(house) || !alps.has(alp)) return NONE;
        if (n < 1 || n > MOST_COWS) return BAD;
        int why = whyNot(house, n);
        if (why > 0) return -20 - why;
        if (driveCount < MOST_DRIVES) writeDrive(house, alp, n);
        driveCount++;
        houses[house].up[alp] += n;
        return houses[house].up[alp];
    }

    /** Why n more cows of a house can't go up now: 0 if they can. */
    private int whyNot(int house, int n) {
        House h = houses[house];
        if (n > h.atHome()) return 1;
        if (!inSeason(h)) return 2;
        int up = h.allUp() + n;
        if (up * worthNow(h, FEET) > rights.held(house, ALPS, today)) return 3;
        int rate = worthNow(h, RATE);
        if (rate > 0 && up > h.counted / rate) return 4;
        return 0;
    }

    private boolean inSeason(House h) {
        int season = today % YEAR_DAYS;
        return season >= worthNow(h, FROM) && season < worthNow(h, TILL);
    }

    private int worthNow(House h, int key) {
        return words.worth(words.latest(h, key, today, today), key);
    }

    private void writeDrive(int house, int alp, int n) {
        drives[DROVE_ON][driveCount] = today;
        drives[DROVE_OF][driveCount] = house;
        drives[DROVE_UP][driveCount] = alp;
        drives[DROVE][driveCount] = n;
        drives[BY_FEET][driveCount] = words.latest(houses[house], FEET, today, today);
        drives[BY_RATE][driveCount] = words.latest(houses[house], RATE, today, today);
    }

    public int home(int house, int alp, int n) {
        if (!isHouse(house) || !alps.has(alp)) return NONE;
        House h = houses[house];
        if (n < 1 || n > MOST_COWS || n > h.up[alp]) return BAD;
        h.up[alp] -= n;
        return h.up[alp];
    }

    public int book(int i, int what) {
        if (i < 0 || i >= driveCount || i >= MOST_DRIVES || what < 0 || what >= COLUMNS) return NO_SUCH;
        return drives[what][i];
    }

    public int days(int n) {
        if (n < 1 || n > MOST_DAYS || n > LAST_DAY - today) return BAD;
        for (int i = 0; i < n; i++) liveDay();
        return today;
    }

    private void liveDay() {
        int warm = skies.on(today, WARM), fall = skies.on(today, FALL);
        for (int i = 0; i < houseCount; i++) houses[i].milk = 0;
        for (int alp = 0; alp < alps.count; alp++) {
            alps.grow(alp, warm, fall);
            graze(alp);
        }
        int season = today % YEAR_DAYS;
        for (int i = 0; i < houseCount; i++) {
            House h = houses[i];
            if (season < 120 || season >= 300) h.winterAtHome();
            int up = h.allUp();
            // Without cows up nothing is fined, and the words need not be asked.
            if (up > 0 && !inSeason(h)) h.oweMore((long) up * worthNow(h, FINE));
        }
        way.live(warm, fall);
        if (season == 0) way.ageWoods();
        milkWaits = true;
        today++;
    }

    private void graze(int alp) {
        for (int i = 0; i < houseCount; i++) {
            House h = houses[i];
            int fed = alps.feedCows(alp, h.up[alp]);
            h.milk += 8 * fed;
            h.hungry += h.up[alp] - fed;
        }
    }

    // ---- slopes

    public int slope(int age) {
        if (age < 0 || age > OLDEST_WOOD) return BAD;
        if (way.count >= MOST_SLOPES) return FULL;
        way.slopes[way.count].age = age;
        return way.count++;
    }

    public int slopeOf(int slope, int what) {
        if (!way.has(slope)) return -500;
        Slope s = way.slopes[slope];
        switch (what) {
            case 0: return s.age;
            case 1: return s.hasWorks ? 1 : 0;
            case 2: return s.layers;
            case 3: return s.lyingFrom(0);
            case 4: return s.risk(s.age);
            case 5: return s.bears(s.age);
            case 6: return s.slid;
            default: return what >= 10 && what - 10 < s.layers ? s.layerOf(what - 10) : -500;
        }
    }

    public int works(int slope, boolean is) {
        if (!way.has(slope)) return NONE;
        if (way.slopes[slope].hasWorks == is) return 0;
        way.slopes[slope].hasWorks = is;
        return 1;
    }

    public int shut(boolean is) {
        if (way.isShut == is) return 0;
        way.isShut = is;
        return 1;
    }

    // ---- cheese, wood, water

    public int measure() {
        if (!milkWaits) return STATE;
        milkWaits = false;
        int all = 0;
        for (int i = 0; i < houseCount; i++) {
            houses[i].sum += houses[i].milk;
            all += houses[i].milk;
        }
        return all;
    }

    public int cheese(int n) {
        if (n < 0 || n > MOST_WHEELS) return BAD;
        int sums = 0;
        for (int i = 0; i < houseCount; i++) sums += houses[i].sum;
        if (sums <= 0) return 0;
        int given = 0;
        for (int i = 0; i < houseCount; i++) given += houses[i].partWheels(n, sums);
        for (int i = given; i < n; i++) houses[withMostRest()].takeWheels(1);
        for (int i = given; i > n; i--) {
            int least = withLeastRest();
            if (least >= 0) houses[least].takeWheels(-1);
        }
        for (int i = 0; i < houseCount; i++) houses[i].sum = 0;
        return n;
    }

    private int withMostRest() {
        int most = 0;
        for (int i = 1; i < houseCount; i++) {
            if (houses[i].rest > houses[most].rest) most = i;
        }
        return most;
    }

    /** Of the houses that got a wheel of this parting: -1 if none did. */
    private int withLeastRest() {
        int least = -1;
        for (int i = 0; i < houseCount; i++) {
            if (houses[i].newWheels > 0 && (least < 0 || houses[i].rest < houses[least].rest)) least = i;
        }
        return least;
    }

    public int rest(int house) {
        return isHouse(house) ? houses[house].rest : -1000000;
    }

    public int fell(int slope, int house) {
        if (!way.has(slope) || !isHouse(house)) return NONE;
        Slope s = way.slopes[slope];
        if (s.risk(0) >= 100) return STATE;
        int felled = s.age / 4;
        s.age = 0;
        way.felled += felled;
        sellLogs(handOutLogs(felled, house));
        return felled;
    }

    /** Hands out logs by lots, round from a house on: what is left. */
    private int handOutLogs(int logs, int first) {
        int left = logs;
        for (int i = 0; i < houseCount; i++) {
            House h = houses[(first + i) % houseCount];
            int gets = Math.min(left, worthNow(h, LOT) * h.has[HEARTHS]);
            h.logs += gets;
            left -= gets;
        }
        return left;
    }

    private void sellLogs(int logs) {
        int coins = logs;
        for (int i = 0; i < houseCount; i++) {
            int paid = Math.min(coins, houses[i].debt);
            houses[i].debt -= paid;
            coins -= paid;
        }
    }

    public int channel(int i, int house, int leak) {
        if (i < 0 || i > water.count || !isHouse(house)) return NONE;
        if (leak < 0 || leak > 100) return BAD;
        if (i >= MOST_CHANNEL) return FULL;
        water.house[i] = house;
        water.leak[i] = leak;
        if (i == water.count) water.count++;
        return water.count;
    }

    public int hour(int h) {
        if (rights.whole(WATER) == 0) return NONE;
        if (h < 0) return BAD;
        return rights.atHour(h);
    }

    public int gets(int house, int h, int flow) {
        if (!isHouse(house) || h < 0 || flow < 0 || flow > MOST_FLOW) return NO_SUCH;
        int right = rights.atHour(h);
        if (right < 0 || rights.holder(right, today) != house) return 0;
        return water.comesTo(house, flow);
    }

    // ---- turns, works

    public int turn(int kind) {
        if (kind < 0 || kind >= TURNS) return NONE;
        int last = lastTurn[kind];
        if (kind == WATCHING && isHouse(last) && watched < worthNow(houses[last], WATCH)) {
            watched++;
            return last;
        }
        int next = nextTurn(kind, last);
        if (next < 0) return NONE;
        lastTurn[kind] = next;
        if (kind == WATCHING) watched = 1;
        return next;
    }

    private int nextTurn(int kind, int last) {
        for (int i = 1; i <= houseCount; i++) {
            int house = (last + i) % houseCount;
            if (takesTurn(kind, houses[house])) return house;
        }
        return -1;
    }

    private static boolean takesTurn(int kind, House h) {
        if (kind == HERD) return h.has[COWS] > 0;
        if (kind == OFFICE) return h.has[HEADS] >= 3;
        return true;
    }

    public int work(int house, int n) {
        if (!isHouse(house)) return NONE;
        if (n < 1 || n > MOST_WORKS) return BAD;
        houses[house].done += n;
        return houses[house].done;
    }

    public int year() {
        int year = today / YEAR_DAYS;
        if (year == yearTold) return STATE;
        yearTold = year;
        int coins = 0;
        for (int i = 0; i < houseCount; i++) {
            House h = houses[i];
            long undone = worthNow(h, OWED) * h.has[HEADS] - h.done;
            if (undone > 0) coins += h.oweMore(undone * worthNow(h, FINE));
            h.done = 0;
        }
        return coins;
    }

    // ---- plans

    public int plan(int houses, int n, int what) {
        if (!areHouses(houses) || houses == 0 || alps.count == 0) return NONE;
        int size = Integer.bitCount(houses);
        if (what < 0 || what > size) return NONE;
        if (n < 1 || n > PLAN_DAYS || size > PLAN_HOUSES || n > LAST_DAY + 1 - today) return BAD;
        int members = listMembers(houses);
        foreseeHunger(houses, members, n);
        int fewest = alps.bestPlan(members);
        return what == 0 ? fewest : alps.planBest[what - 1];
    }

    private int listMembers(int set) {
        int members = 0;
        for (int i = 0; i < houseCount && members < PLAN_HOUSES; i++) {
            if ((set >> i & 1) == 1) alps.planCows[members++] = houses[i].has[COWS];
        }
        return members;
    }

    /** Hunger on an alp hangs on nothing but how many cows are there, so each alp is lived once for each set of members. */
    private void foreseeHunger(int set, int members, int n) {
        for (int d = 0; d < n; d++) {
            alps.planWarm[d] = skies.on(today + d, WARM);
            alps.planFall[d] = skies.on(today + d, FALL);
        }
        for (int alp = 0; alp < alps.count; alp++) {
            int staying = cowsUpOn(alp, set);
            for (int some = 0; some < 1 << members; some++) {
                alps.planHunger[alp][some] = alps.hungerWith(alp, staying + alps.cowsOfSome(some, members), n);
            }
        }
    }

    // ---- acts, sheets

    public int act(int right, int act, int x) {
        bodiesRun = 0;
        if (!rights.has(right)) return 0;
        switch (act) {
            case 0: return holdsBy(right, x);
            case 1: return owesBy(right, x);
            case 2: return passesBy(right, x);
            default: return 0;
        }
    }

    private void enterBody(int body) {
        if (bodiesRun < MOST_BODIES) bodies[bodiesRun] = body;
        bodiesRun++;
    }

    // The bodies begin from the lowest kind up; what each makes of the answer above it comes after.

    private int holdsBy(int right, int x) {
        int kind = rights.kind[right];
        if (kind == WOOD) enterBody(30);
        if (kind == HALF) enterBody(50);
        if (kind == STRANGE) enterBody(60);
        enterBody(10);
        int held = x + rights.parts[right];
        if (kind == WOOD) return held * 3;
        if (kind == HALF) return held ^ 5;
        return kind == STRANGE ? held - 7 : held;
    }

    private int owesBy(int right, int x) {
        int kind = rights.kind[right];
        if (kind == HALF) enterBody(51);
        if (kind == HALF || kind == COW) enterBody(20);
        enterBody(11);
        int owed = holdsBy(right, x) * 2;
        if (kind == HALF || kind == COW) owed += right;
        return kind == HALF ? owed - rights.parts[right] : owed;
    }

    private int passesBy(int right, int x) {
        int by = x;
        if (rights.kind[right] == HOUR) {
            enterBody(40);
            by = x + 1;
        }
        enterBody(12);
        int owed = owesBy(right, by);
        return owed ^ holdsBy(right, by - right);
    }

    public int trace(int i) {
        if (i < 0 || i >= bodiesRun || i >= MOST_BODIES) return NONE;
        return bodies[i];
    }

    public int taken(int right, int k) {
        if (k < 0 || k >= KINDS) return BAD;
        if (!rights.has(right)) return MISSING;
        int kind = rights.kind[right];
        return Rights.isUnder(kind, k) ? kind : OTHER_SORT;
    }

    public int count(int what) {
        switch (what) {
            case 0: return houseCount;
            case 1: return rights.count;
            case 2: return words.count;
            case 3: return today;
            case 4: return alps.count;
            case 5: return way.count;
            case 6: return driveCount;
            case 7: return way.slides;
            case 8: return way.missed;
            case 9: return way.inVain;
            case 10: return wheelsGiven();
            case 11: return way.felled;
            case 12: return words.length;
            case 13: return way.isShut ? 1 : 0;
            case 14: return bodiesRun;
            default: return BAD;
        }
    }

    private int wheelsGiven() {
        int all = 0;
        for (int i = 0; i < houseCount; i++) all += houses[i].wheels;
        return all;
    }

    public int sheet(int sheet, int sort, int n) {
        if (!isSheet(sheet) || sort < NO_SORT || sort > FLOATS) return BAD;
        if (sort == NO_SORT) {
            sheets[sheet].becomeRow(NO_SORT, 0);
            return 1;
        }
        if (n > MOST_ITEMS) return BAD;
        if (n < 0) return TOO_SHORT;
        sheets[sheet].becomeRow(sort, n);
        return 1;
    }

    public int cell(int sheet, int i, int v) {
        if (!isSheet(sheet)) return BAD;
        Sheet s = sheets[sheet];
        if (s.sort == NO_SORT) return MISSING;
        if (!s.holds(i, 1)) return OUTSIDE;
        s.items[i] = s.cut(v);
        return 1;
    }

    public int lose(int sheet, int i) {
        if (!isSheet(sheet)) return BAD;
        Sheet s = sheets[sheet];
        if (s.sort == NO_SORT) return MISSING;
        if (s.sort != FLOATS) return OTHER_SORT;
        if (!s.holds(i, 1)) return OUTSIDE;
        s.items[i] = Sheet.NO_NUMBER;
        return 1;
    }

    public int copy(int sheet, int i, int other, int j, int n) {
        if (!isSheet(sheet) || !isSheet(other)) return BAD;
        Sheet from = sheets[sheet], to = sheets[other];
        if (from.sort == NO_SORT || to.sort == NO_SORT) return MISSING;
        if (from.sort != to.sort) return OTHER_SORT;
        if (!from.holds(i, n) || !to.holds(j, n)) return OUTSIDE;
        System.arraycopy(from.items, i, to.items, j, n);
        return n;
    }

    private static boolean isSheet(int sheet) {
        return sheet >= 0 && sheet < SHEETS;
    }

    /** One house: what it has, where its cows are, and what it owes and got. */
    private static final class House {
        private static final int[] LEAST = {1, 1, 0, 0};
        private static final int[] MOST = {9, 20, 99, 99999};

        private final int[] has = new int[HAVINGS];
        private final int[] up = new int[MOST_ALPS];
        private int debt, hungry, milk, sum, counted, wheels, newWheels, rest, logs, done;

        private static boolean fits(int what, int v) {
            return v >= LEAST[what] && v <= MOST[what];
        }

        private int allUp() {
            int all = 0;
            for (int alp = 0; alp < MOST_ALPS; alp++) all += up[alp];
            return all;
        }

        private int atHome() {
            return has[COWS] - allUp();
        }

        private void winterAtHome() {
            int fed = Math.min(atHome(), has[HAY]);
            has[HAY] -= fed;
            hungry += atHome() - fed;
        }

        /** What would go beyond the greatest debt is dropped: how much became debt. */
        private int oweMore(long coins) {
            int more = (int) Math.min(coins, MOST_DEBT - debt);
            debt += more;
            return more;
        }

        /** Parts its share of n wheels: how many whole ones it gets ahead of all evening out. */
        private int partWheels(int n, int sums) {
            rest += (int) ((long) n * sum * WHOLE_WHEEL / sums);
            newWheels = 0;
            if (rest > 0) takeWheels(rest / WHOLE_WHEEL);
            return newWheels;
        }

        private void takeWheels(int n) {
            newWheels += n;
            wheels += n;
            rest -= n * WHOLE_WHEEL;
        }
    }

    /** All rights, a column for each thing that one has. */
    private static final class Rights {
        /** By kinds; -1 is none. */
        private static final int[] COMMON_OF = {-1, ALPS, WOODS, WATER, ALPS, -1};
        private static final int[] KIND_ABOVE = {-1, RIGHT, RIGHT, RIGHT, COW, RIGHT};

        private final int[] kind = new int[MOST_RIGHTS];
        private final int[] owner = new int[MOST_RIGHTS];
        private final int[] parts = new int[MOST_RIGHTS];
        private final int[] lentTo = new int[MOST_RIGHTS];
        private final int[] lentTill = new int[MOST_RIGHTS];
        private int count;

        private boolean has(int right) {
            return right >= 0 && right < count;
        }

        private int enter(int newKind, int newOwner, int newParts) {
            kind[count] = newKind;
            owner[count] = newOwner;
            parts[count] = newParts;
            return count++;
        }

        private int commonOf(int right) {
            return COMMON_OF[kind[right]];
        }

        private boolean isLent(int right, int day) {
            return day < lentTill[right];
        }

        private int holder(int right, int day) {
            return isLent(right, day) ? lentTo[right] : owner[right];
        }

        private boolean joinable(int right, int other, int day) {
            if (commonOf(right) < 0 || commonOf(right) != commonOf(other) || owner[right] != owner[other]) return false;
            if (isLent(right, day) || isLent(other, day)) return false;
            return parts[right] > 0 && parts[other] > 0;
        }

        private int whole(int common) {
            int all = 0;
            for (int r = 0; r < count; r++) {
                if (commonOf(r) == common) all += parts[r];
            }
            return all;
        }

        private int held(int house, int common, int day) {
            int all = 0;
            for (int r = 0; r < count; r++) {
                if (commonOf(r) == common && holder(r, day) == house) all += parts[r];
            }
            return all;
        }

        /** The right that an hour of the water's cycle is of: -1 if the cycle has no hours. */
        private int atHour(int h) {
            int cycle = whole(WATER);
            if (cycle <= 0) return -1;
            int left = h % cycle;
            for (int r = 0; r < count; r++) {
                if (commonOf(r) == WATER) {
                    if (left < parts[r]) return r;
                    left -= parts[r];
                }
            }
            return -1;
        }

        private static boolean isUnder(int kind, int above) {
            int k = kind;
            for (int i = 0; i < KINDS && k >= 0; i++) {
                if (k == above) return true;
                k = KIND_ABOVE[k];
            }
            return false;
        }
    }

    /** A word that passed, or the row in which the next one is read. */
    private static final class Word {
        private int key, number, day, voidOn;
        private boolean isVoid, unless;
        private int tests;
        private final int[] field = new int[MOST_TESTS];
        private final int[] sign = new int[MOST_TESTS];
        private final int[] than = new int[MOST_TESTS];
        private final boolean[] not = new boolean[MOST_TESTS];
        private final boolean[] or = new boolean[MOST_TESTS];

        private boolean stands(int ofKey, int a, int k) {
            return key == ofKey && day <= a && day <= k && !(isVoid && voidOn <= k);
        }

        private boolean holdsFor(House h, int a) {
            if (tests == 0) return true;
            boolean any = false, all = true;
            for (int i = 0; i < tests && i < MOST_TESTS; i++) {
                // An or ends the tests that and bound together ahead of it.
                if (or[i]) {
                    any = any || all;
                    all = true;
                }
                all = all && (not[i] != isTrue(fieldOf(h, a, field[i]), sign[i], than[i]));
            }
            return (any || all) != unless;
        }

        private static int fieldOf(House h, int a, int field) {
            switch (field) {
                case 0: return h.has[COWS];
                case 1: return h.has[HAY];
                case 2: return h.has[HEADS];
                case 3: return h.has[HEARTHS];
                case 4: return a / YEAR_DAYS;
                default: return a % YEAR_DAYS;
            }
        }

        private static boolean isTrue(int has, int sign, int than) {
            if (sign == 0) return has < than;
            return sign == 1 ? has == than : has > than;
        }
    }

    /** The words that passed, and the tape from which the next one is read. */
    private static final class Words {
        /** A blank ends each name. In each row no name begins another, so that the first one that fits is the only one. */
        private static final String KEY_NAMES = "rate feet from till heads fine lot watch ";
        private static final String FIELD_NAMES = "cows hay heads hearths year season ";
        private static final String FIELD_NAMES_AND_NOT = "cows hay heads hearths year season not ";
        private static final String SIGNS = "< = > ";
        private static final String CONDITIONS = "if unless ";
        private static final String JOINTS = "and or ";
        private static final int NOT = 6, UNLESS = 1, OR = 1;
        /** What the keys are worth without any word. */
        private static final int[] WORTH_AT_FIRST = {30, 4, 150, 270, 2, 5, 3, 1};

        private final Word[] rows = new Word[MOST_WORDS];
        private int count;
        private final byte[] tape = new byte[MOST_BYTES];
        private int length;
        private int place;

        private Words() {
            for (int i = 0; i < MOST_WORDS; i++) rows[i] = new Word();
        }

        private boolean has(int word) {
            return word >= 0 && word < count;
        }

        private void append(byte b) {
            if (length < MOST_BYTES) tape[length++] = b;
        }

        private int enter(int day) {
            rows[count].day = day;
            return count++;
        }

        /** What a key is worth by a word, or without any (-1). */
        private int worth(int word, int key) {
            return word < 0 ? WORTH_AT_FIRST[key] : rows[word].number;
        }

        /** The latest word that tells a key for a house: -1 if none does. */
        private int latest(House h, int key, int a, int k) {
            for (int i = count - 1; i >= 0; i--) {
                if (rows[i].stands(key, a, k) && rows[i].holdsFor(h, a)) return i;
            }
            return -1;
        }

        /** Reads the tape into the next row: -1, or the place of the fault. */
        private int read() {
            if (count >= MOST_WORDS) return 0;
            place = 0;
            return readWord(rows[count]) ? -1 : place;
        }

        // Each of these goes on behind what it read, or stays at the first byte that can't be.

        private boolean readWord(Word w) {
            w.tests = 0;
            w.unless = false;
            w.key = readName(KEY_NAMES);
            if (w.key < 0 || !readBlank()) return false;
            w.number = readNumber();
            if (w.number < 0) return false;
            if (place == length) return true;
            if (!readBlank()) return false;
            int condition = readName(CONDITIONS);
            if (condition < 0 || !readBlank()) return false;
            w.unless = condition == UNLESS;
            return readTests(w);
        }

        private boolean readTests(Word w) {
            boolean or = false;
            for (int i = 0; i < MOST_TESTS; i++) {
                w.or[i] = or;
                if (!readTest(w, i)) return false;
                w.tests = i + 1;
                if (place == length) return true;
                if (i == MOST_TESTS - 1 || !readBlank()) return false;
                int joint = readName(JOINTS);
                if (joint < 0 || !readBlank()) return false;
                or = joint == OR;
            }
            return false;
        }

        private boolean readTest(Word w, int i) {
            int name = readName(FIELD_NAMES_AND_NOT);
            w.not[i] = name == NOT;
            if (name == NOT) name = readBlank() ? readName(FIELD_NAMES) : -1;
            if (name < 0) return false;
            w.field[i] = name;
            w.sign[i] = readName(SIGNS);
            if (w.sign[i] < 0) return false;
            w.than[i] = readNumber();
            return w.than[i] >= 0;
        }

        private boolean readBlank() {
            if (place >= length || tape[place] != ' ') return false;
            place++;
            return true;
        }

        private int readNumber() {
            int number = -1;
            for (int i = 0; i < MOST_DIGITS && place < length; i++) {
                int digit = tape[place] - '0';
                if (digit < 0 || digit > 9) return number;
                number = Math.max(number, 0) * 10 + digit;
                place++;
            }
            return number;
        }

        /** Which of the names stands here: -1, and the place behind all that any name has in common, if none does. */
        private int readName(String names) {
            int name = 0, same = 0, furthest = 0;
            boolean fits = true;
            for (int i = 0; i < names.length(); i++) {
                char sign = names.charAt(i);
                if (sign == ' ') {
                    // A name ends here, and the next one begins.
                    if (fits) {
                        place += same;
                        return name;
                    }
                    name++;
                    same = 0;
                    fits = true;
                } else if (fits) {
                    fits = place + same < length && tape[place + same] == sign;
                    if (fits) same++;
                    furthest = Math.max(furthest, same);
                }
            }
            place += furthest;
            return -1;
        }
    }

    /** Warmth and fall of the days, as far as they were told. */
    private static final class Sky {
        /** What was told is kept this much greater, so that 0 is not told. */
        private static final int SHIFT = 41;
        private static final int BLOCK = 60, BLOCKS = 120;
        private static final int[] LEAST = {-40, 0};
        private static final int[] MOST = {40, 200};
        private static final int[] WITHOUT = {5, 0};

        private final short[][] told = new short[2][LAST_DAY + 1];
        /** How many days were told in each block, so that a look back passes over empty ones. */
        private final int[][] toldIn = new int[2][BLOCKS];

        private static boolean has(int day, int what) {
            return day >= 0 && day <= LAST_DAY && what >= WARM && what <= FALL;
        }

        private static boolean fits(int what, long v) {
            return v >= LEAST[what] && v <= MOST[what];
        }

        private void tell(int day, int what, int v) {
            if (told[what][day] == 0) toldIn[what][day / BLOCK]++;
            told[what][day] = (short) (v + SHIFT);
        }

        private int on(int day, int what) {
            int d = day;
            while (d >= 0) {
                if (told[what][d] != 0) return told[what][d] - SHIFT;
                int block = d / BLOCK;
                d = toldIn[what][block] == 0 ? block * BLOCK - 1 : d - 1;
            }
            return WITHOUT[what];
        }
    }

    /** All alps, a column for each thing that one has, and the rows in which a plan is reckoned. */
    private static final class Alps {
        private final int[] height = new int[MOST_ALPS];
        private final int[] area = new int[MOST_ALPS];
        private final int[] grass = new int[MOST_ALPS];
        private final int[] snow = new int[MOST_ALPS];
        private int count;
        private final int[] planWarm = new int[PLAN_DAYS];
        private final int[] planFall = new int[PLAN_DAYS];
        private final int[] planCows = new int[PLAN_HOUSES];
        /** By alps, and by sets of members that are there. */
        private final int[][] planHunger = new int[MOST_ALPS][1 << PLAN_HOUSES];
        private final int[] planAlp = new int[PLAN_HOUSES];
        private final int[] planOn = new int[MOST_ALPS];
        private final int[] planBest = new int[PLAN_HOUSES];

        private boolean has(int alp) {
            return alp >= 0 && alp < count;
        }

        private int enter(int newHeight, int newArea) {
            height[count] = newHeight;
            area[count] = newArea;
            return count++;
        }

        private void grow(int alp, int warm, int fall) {
            int here = warm - 5 * height[alp];
            snow[alp] = snowAfter(snow[alp], here, fall);
            if (snow[alp] == 0) grass[alp] = grassAfter(grass[alp], here, area[alp]);
        }

        private static int snowAfter(int snow, int here, int fall) {
            return here <= 2 ? snow + fall : Math.max(0, snow - 2 * here);
        }

        private static int grassAfter(int grass, int here, int area) {
            if (here <= 0) return grass;
            return Math.min(10 * area, grass + Math.min(here, 20) * area / 10);
        }

        /** How many of so many cows are fed; their grass is gone. */
        private int feedCows(int alp, int cows) {
            int fed = Math.min(cows, grass[alp] / 3);
            grass[alp] -= 3 * fed;
            return fed;
        }

        /** How many would be hungry in n days with so many cows on an alp. */
        private int hungerWith(int alp, int cows, int n) {
            int g = grass[alp], s = snow[alp], hungry = 0;
            for (int d = 0; d < n && d < PLAN_DAYS; d++) {
                int here = planWarm[d] - 5 * height[alp];
                s = snowAfter(s, here, planFall[d]);
                if (s == 0) g = grassAfter(g, here, area[alp]);
                int fed = Math.min(cows, g / 3);
                g -= 3 * fed;
                hungry += cows - fed;
            }
            return hungry;
        }

        private int cowsOfSome(int some, int members) {
            int cows = 0;
            for (int m = 0; m < members && m < PLAN_HOUSES; m++) {
                if ((some >> m & 1) == 1) cows += planCows[m];
            }
            return cows;
        }

        /** Goes through all plans, in the order in which the first of several is asked: the fewest hungry. */
        private int bestPlan(int members) {
            int plans = beginPlans(members);
            int fewest = hungerNow();
            for (int p = 1; p < plans; p++) {
                turnPlan(members);
                int hungry = hungerNow();
                if (hungry < fewest) {
                    fewest = hungry;
                    keepPlan(members);
                }
            }
            return fewest;
        }

        /** All members on the first alp, which is the best plan as yet: how many plans there are. */
        private int beginPlans(int members) {
            int plans = 1;
            for (int m = 0; m < members; m++) {
                plans *= count;
                planAlp[m] = 0;
            }
            for (int alp = 0; alp < count; alp++) planOn[alp] = 0;
            planOn[0] = (1 << members) - 1;
            keepPlan(members);
            return plans;
        }

        private int hungerNow() {
            int hungry = 0;
            for (int alp = 0; alp < count; alp++) hungry += planHunger[alp][planOn[alp]];
            return hungry;
        }

        private void keepPlan(int members) {
            for (int m = 0; m < members; m++) planBest[m] = planAlp[m];
        }

        /** The last member goes one alp on; one that was on the last alp begins anew, and the member ahead of it goes on. */
        private void turnPlan(int members) {
            boolean goesOn = false;
            for (int m = members - 1; m >= 0 && !goesOn; m--) {
                planOn[planAlp[m]] ^= 1 << m;
                goesOn = planAlp[m] + 1 < count;
                planAlp[m] = goesOn ? planAlp[m] + 1 : 0;
                planOn[planAlp[m]] ^= 1 << m;
            }
        }
    }

    /** One slope: its wood, its works and the layers on it, from the ground on. */
    private static final class Slope {
        private int age, layers, slid;
        private boolean hasWorks;
        private final int[] depth = new int[MOST_LAYERS + 1];
        private final boolean[] soft = new boolean[MOST_LAYERS + 1];

        private int bears(int ofAge) {
            return 40 + ofAge / 5 + (hasWorks ? 30 : 0);
        }

        private int layerOf(int i) {
            return soft[i] ? -depth[i] : depth[i];
        }

        private int lyingFrom(int layer) {
            int all = 0;
            for (int i = layer; i < layers; i++) all += depth[i];
            return all;
        }

        /** The lowest soft layer: how many layers there are if none is. */
        private int lowestSoft() {
            int i = 0;
            while (i < layers && !soft[i]) i++;
            return i;
        }

        private int risk(int ofAge) {
            return lyingFrom(lowestSoft() + 1) * 100 / bears(ofAge);
        }

        /** A day of it: whether it slid. */
        private boolean live(int warm, int fall) {
            if (warm > 2) melt(3 * warm);
            else if (fall > 0) addLayer(fall, warm > -5);
            // The most lies over the lowest soft layer: if that one bears it, so do all.
            int low = lowestSoft();
            if (lyingFrom(low + 1) < bears(age)) return false;
            layers = low;
            if (age < 40) age = 0;
            slid++;
            return true;
        }

        private void melt(int loss) {
            if (layers == 0) return;
            int top = layers - 1;
            if (depth[top] > loss) depth[top] -= loss;
            else layers = top;
        }

        private void addLayer(int fall, boolean isSoft) {
            depth[layers] = fall;
            soft[layers] = isSoft;
            layers++;
            if (layers > MOST_LAYERS) joinLowest();
        }

        private void joinLowest() {
            depth[1] += depth[0];
            soft[1] = soft[1] || soft[0];
            layers--;
            for (int i = 0; i < layers; i++) {
                depth[i] = depth[i + 1];
                soft[i] = soft[i + 1];
            }
        }
    }

    /** The slopes over the way, and what was told of them. */
    private static final class Way {
        private final Slope[] slopes = new Slope[MOST_SLOPES];
        private int count;
        private boolean isShut;
        private int slides, missed, inVain, felled;

        private Way() {
            for (int i = 0; i < MOST_SLOPES; i++) slopes[i] = new Slope();
        }

        private boolean has(int slope) {
            return slope >= 0 && slope < count;
        }

        private void live(int warm, int fall) {
            int slidToday = 0;
            for (int i = 0; i < count; i++) {
                if (slopes[i].live(warm, fall)) slidToday++;
            }
            slides += slidToday;
            if (!isShut) missed += slidToday;
            else if (slidToday == 0) inVain++;
        }

        private void ageWoods() {
            for (int i = 0; i < count; i++) slopes[i].age = Math.min(OLDEST_WOOD, slopes[i].age + 1);
        }
    }

    /** The houses along the channel, and the leak ahead of each. */
    private static final class Channel {
        private final int[] house = new int[MOST_CHANNEL];
        private final int[] leak = new int[MOST_CHANNEL];
        private int count;

        /** What comes to a house at its first place, 0 if it has none. */
        private int comesTo(int ofHouse, int flow) {
            int comes = flow;
            for (int i = 0; i < count; i++) {
                comes = comes * (100 - leak[i]) / 100;
                if (house[i] == ofHouse) return comes;
            }
            return 0;
        }
    }

    /** A row of numbers of one sort, or missing; of floats it holds the quarters. */
    private static final class Sheet {
        /** No cell can be told this, as it is below every int. */
        private static final long NO_NUMBER = -9000000000L;

        private int sort = NO_SORT;
        private int size;
        private final long[] items = new long[MOST_ITEMS];

        private void becomeRow(int newSort, int n) {
            sort = newSort;
            size = n;
            for (int i = 0; i < MOST_ITEMS; i++) items[i] = 0;
        }

        private boolean holds(int i, int n) {
            return i >= 0 && n >= 0 && n <= size - i;
        }

        private long cut(int v) {
            if (sort == BYTES) return (byte) v;
            return sort == SHORTS ? (short) v : v;
        }
    }
}
