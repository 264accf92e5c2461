/** Promises 42 to 45: act, trace, taken, count. */
public final class ActsTest {
    public static void main(String[] args) {
        actAnswers();
        againstClasses();
        wrapping();
        taken();
        count();
        Check.end();
    }

    private static int[] ran;
    private static int count;

    /** The acts as Java's own classes say them. */
    private static class Right {
        final int m, q;

        Right(int m, int q) {
            this.m = m;
            this.q = q;
        }

        void body(int n) {
            ran[count++] = n;
        }

        int holds(int x) {
            body(10);
            return x + q;
        }

        int owes(int x) {
            body(11);
            return holds(x) * 2;
        }

        int passes(int x) {
            body(12);
            return owes(x) ^ holds(x - m);
        }
    }

    private static class Cow extends Right {
        Cow(int m, int q) {
            super(m, q);
        }

        int owes(int x) {
            body(20);
            return super.owes(x) + m;
        }
    }

    private static class Wood extends Right {
        Wood(int m, int q) {
            super(m, q);
        }

        int holds(int x) {
            body(30);
            return super.holds(x) * 3;
        }
    }

    private static class Hour extends Right {
        Hour(int m, int q) {
            super(m, q);
        }

        int passes(int x) {
            body(40);
            return super.passes(x + 1);
        }
    }

    private static class Half extends Cow {
        Half(int m, int q) {
            super(m, q);
        }

        int holds(int x) {
            body(50);
            return super.holds(x) ^ 5;
        }

        int owes(int x) {
            body(51);
            return super.owes(x) - q;
        }
    }

    private static class Strange extends Right {
        Strange(int m, int q) {
            super(m, q);
        }

        int holds(int x) {
            body(60);
            return super.holds(x) - 7;
        }
    }

    /** Rights 0 to 6: RIGHT, COW, WOOD, HOUR, STRANGE, and two HALFS. */
    private static AlpCommune rights() {
        AlpCommune x = new AlpCommune();
        x.house(1, 1, 1, 1);
        x.right(0, 0, 17);
        x.right(0, 1, 900);
        x.right(0, 2, 5);
        x.right(0, 3, 999);
        x.right(0, 5, 1);
        x.split(1, 333);
        x.split(5, 30);
        return x;
    }

    private static Right likeRight(AlpCommune x, int right) {
        int q = x.rightOf(right, 2);
        switch (x.rightOf(right, 0)) {
            case 1: return new Cow(right, q);
            case 2: return new Wood(right, q);
            case 3: return new Hour(right, q);
            case 4: return new Half(right, q);
            case 5: return new Strange(right, q);
            default: return new Right(right, q);
        }
    }

    private static void actAnswers() {
        AlpCommune x = rights();
        Check.due("no TRACE at first", x.trace(0), -1);
        Check.due("no bodies at first", x.count(14), 0);
        for (int right : Check.outside(0, 6)) {
            x.act(1, 2, 3);
            Check.due("a TRACE", x.trace(0), 12);
            Check.due("right " + right, x.act(right, 0, 5), 0);
            Check.due("no TRACE then", x.trace(0), -1);
            Check.due("no bodies then", x.count(14), 0);
        }
        for (int act : Check.outside(0, 2)) {
            x.act(1, 2, 3);
            Check.due("act " + act, x.act(1, act, 5), 0);
            Check.due("no TRACE then", x.trace(0), -1);
            Check.due("no bodies then", x.count(14), 0);
        }
        x.act(5, 2, 3);
        Check.due("bodies", x.count(14), 8);
        for (int i : Check.outside(0, 7)) Check.due("trace " + i, x.trace(i), -1);
        Check.due("the last", x.trace(7), 10);
        x.rightOf(0, 0);
        x.act(0, 0, 0);
        Check.due("the latest act", x.count(14), 1);
        Check.due("the latest act", x.trace(0), 10);
        Check.due("no more of an earlier one", x.trace(1), -1);
    }

    private static void againstClasses() {
        AlpCommune x = rights();
        int[] xs = {0, 1, -1, 5, 1000, Check.MOST, Check.LEAST, 123456789, -987654321};
        for (int round = 0; round < 2; round++) {
            for (int right = 0; right < 7; right++) {
                for (int each : xs) {
                    for (int act = 0; act < 3; act++) {
                        // A fresh one now and then, as one is for 512 calls.
                        if (act == 0 && each == 0) x = rights();
                        if (round == 1 && act == 0 && each == 0) x.join(6, 5);
                        Right like = likeRight(x, right);
                        ran = new int[20];
                        count = 0;
                        int want = act == 0 ? like.holds(each) : act == 1 ? like.owes(each) : like.passes(each);
                        String call = "act(" + right + ", " + act + ", " + each + ")";
                        Check.due(call, x.act(right, act, each), want);
                        Check.due(call + " bodies", x.count(14), count);
                        for (int i = 0; i < count; i++) Check.due(call + " trace " + i, x.trace(i), ran[i]);
                        Check.due(call + " no more", x.trace(count), -1);
                    }
                }
            }
        }
    }

    private static void wrapping() {
        AlpCommune x = rights();
        Check.due("holds wraps", x.act(0, 0, Check.MOST), Check.LEAST + 16);
        Check.due("owes wraps", x.act(0, 1, Check.MOST), 32);
    }

    private static void taken() {
        AlpCommune x = rights();
        int[] kinds = {0, 1, 2, 3, 5, 4, 4};
        int[] above = {-1, 0, 0, 0, 1, 0};
        for (int k : Check.outside(0, 5)) Check.due("k " + k, x.taken(0, k), -2);
        for (int right : Check.outside(0, 6)) Check.due("right " + right, x.taken(right, 0), -11);
        Check.due("BAD ahead of -11", x.taken(7, 6), -2);
        for (int right = 0; right < 7; right++) {
            for (int k = 0; k < 6; k++) {
                boolean is = false;
                for (int kind = kinds[right]; kind >= 0; kind = above[kind]) is |= kind == k;
                Check.due("taken(" + right + ", " + k + ")", x.taken(right, k), is ? kinds[right] : -13);
            }
        }
    }

    private static void count() {
        AlpCommune x = new AlpCommune();
        for (int what : Check.outside(0, 14)) Check.due("what " + what, x.count(what), -2);
        x.house(1, 1, 1, 99999);
        x.house(1, 1, 1, 99999);
        for (int i = 0; i < 3; i++) x.right(0, 1, 9);
        Check.pass(x, "from 0");
        x.days(6);
        x.alp(0, 1);
        x.slope(80);
        x.counts();
        x.drive(0, 0, 1);
        x.fell(0, 0);
        Check.say(x, "abc");
        x.shut(true);
        x.days(1);
        x.act(0, 1, 0);
        int[] counts = {2, 3, 1, 7, 1, 1, 1, 0, 0, 1, 0, 20, 3, 1, 3};
        for (int what = 0; what < counts.length; what++) Check.due("count(" + what + ")", x.count(what), counts[what]);
    }
}
