import java.util.ArrayList;
import java.util.List;

/**
 * All that can be seen of a commune: first what can be asked without changing anything, then what it answers as it goes
 * on (turns, a vote on what is on the tape, the sheets' items by sky(), cheese, a year's end, a day, ..). Two communes
 * that were told the same have the same looks. A look is one of an object's last uses.
 */
final class Look {
    /** An object is for 512 calls; a look leaves some for what was ahead of it. */
    static final int MOST_CALLS = 400;

    private final AlpCommune x;
    private final List<String> calls = new ArrayList<>();
    private final List<Integer> answers = new ArrayList<>();

    private Look(AlpCommune x) {
        this.x = x;
    }

    static Look at(AlpCommune x) {
        Look look = new Look(x);
        look.houses();
        look.rightsAndWater();
        look.wordsAndDrives();
        look.slopesAndAlps();
        look.goesOn();
        if (look.answers.size() > MOST_CALLS) throw new IllegalStateException(look.answers.size() + " calls are too many");
        return look;
    }

    /** The first call of which the answers differ: nothing if none do. */
    static String firstOther(Look one, Look other) {
        for (int i = 0; i < Math.min(one.calls.size(), other.calls.size()); i++) {
            if (!one.calls.get(i).equals(other.calls.get(i)) || !one.answers.get(i).equals(other.answers.get(i))) {
                return one.calls.get(i) + " = " + one.answers.get(i) + ", " + other.calls.get(i) + " = " + other.answers.get(i);
            }
        }
        return one.calls.size() == other.calls.size() ? "" : one.calls.size() + " calls, " + other.calls.size();
    }

    private int add(String call, int answer) {
        calls.add(call);
        answers.add(answer);
        return answer;
    }

    /** The first and the last of so many. */
    private static List<Integer> some(int count, int first, int last) {
        List<Integer> some = new ArrayList<>();
        for (int i = 0; i < count; i++) if (i < first || i >= count - last) some.add(i);
        return some;
    }

    private void houses() {
        for (int what = 0; what <= 14; what++) add("count(" + what + ")", x.count(what));
        for (int h : some(x.count(0), 2, 1)) {
            for (int what = 0; what <= 12; what++) add("told(" + h + ", " + what + ")", x.told(h, what));
            add("rest(" + h + ")", x.rest(h));
            for (int common = 0; common < 3; common++) add("parts(" + h + ", " + common + ")", x.parts(h, common));
        }
    }

    private void rightsAndWater() {
        for (int r : some(x.count(1), 6, 3)) {
            for (int what = 1; what <= 5; what += what == 3 ? 2 : 1) add("rightOf(" + r + ", " + what + ")", x.rightOf(r, what));
        }
        for (int common = 0; common < 3; common++) add("parts(-1, " + common + ")", x.parts(-1, common));
        for (int h = 0; h < 6; h++) {
            add("hour(" + h + ")", x.hour(h));
            for (int house : some(x.count(0), 2, 1)) add("gets(" + house + ", " + h + ")", x.gets(house, h, 9999));
        }
        for (int i = 0; i < 4; i++) add("trace(" + i + ")", x.trace(i));
    }

    private void wordsAndDrives() {
        int day = x.count(3);
        for (int h : some(x.count(0), 1, 1)) {
            for (int key = 0; key < 8; key++) add("why(" + h + ", " + key + ")", x.why(h, key, day, day));
            for (int key = 0; key < 2; key++) add("value(" + h + ", " + key + ")", x.value(h, key, day, day));
        }
        for (int i : some(x.count(6), 1, 2)) {
            for (int what = 1; what <= 5; what++) add("book(" + i + ", " + what + ")", x.book(i, what));
        }
    }

    private void slopesAndAlps() {
        for (int s : some(x.count(5), 1, 1)) {
            for (int what = 0; what <= 6; what++) add("slopeOf(" + s + ", " + what + ")", x.slopeOf(s, what));
            for (int what = 10; what <= 12; what++) add("slopeOf(" + s + ", " + what + ")", x.slopeOf(s, what));
        }
        for (int alp : some(x.count(4), 1, 1)) {
            for (int what = 0; what <= 6; what++) add("alpOf(" + alp + ", " + what + ")", x.alpOf(alp, what));
        }
        int day = x.count(3);
        for (int what = 0; what <= 1; what++) {
            for (int d : new int[] {0, day, 7199}) add("skyOf(" + d + ", " + what + ")", x.skyOf(d, what));
        }
    }

    private void goesOn() {
        for (int kind = 0; kind < 3; kind++) for (int i = 0; i < 2; i++) add("turn(" + kind + ")", x.turn(kind));
        add("vote", x.vote((1 << x.count(0)) - 1, 0));
        for (int s = 0; s < 3; s++) sheet(s);
        add("measure", x.measure());
        add("cheese", x.cheese(7));
        add("year", x.year());
        add("days", x.days(1));
        add("plan", x.plan(1, 2, 0));
        for (int h : some(x.count(0), 2, 1)) {
            for (int what : new int[] {3, 4, 6, 7, 10}) add("told(" + h + ", " + what + ") then", x.told(h, what));
            add("rest(" + h + ") then", x.rest(h));
        }
        for (int s : some(x.count(5), 1, 1)) add("slopeOf(" + s + ", 3) then", x.slopeOf(s, 3));
        for (int alp : some(x.count(4), 1, 1)) add("alpOf(" + alp + ", 2) then", x.alpOf(alp, 2));
    }

    /** How long a sheet is, its sort, and items of it as far as they can be seen. */
    private void sheet(int s) {
        for (int i : new int[] {0, 2, 4, 59}) add("copy(" + s + ", " + i + ")", x.copy(s, i, s, i, 1));
        if (add("lose(" + s + ", 60)", x.lose(s, 60)) != -12) return;
        for (int i = 0; i < 4; i++) {
            add("sky(" + (7000 + i) + ", " + s + ", " + i + ")", x.sky(7000 + i, 0, s, i, 1));
            add("skyOf(" + (7000 + i) + ")", x.skyOf(7000 + i, 0));
        }
    }
}
