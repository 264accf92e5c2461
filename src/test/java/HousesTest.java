/** Promises 1 to 5: a new object, house, change, told, counts. */
public final class HousesTest {
    public static void main(String[] args) {
        newObject();
        house();
        change();
        told();
        counts();
        Check.end();
    }

    private static void newObject() {
        AlpCommune x = new AlpCommune();
        for (int what = 0; what <= 14; what++) Check.due("count(" + what + ") of a new object", x.count(what), 0);
        Check.due("NONE", AlpCommune.NONE, -1);
        Check.due("BAD", AlpCommune.BAD, -2);
        Check.due("STATE", AlpCommune.STATE, -3);
        Check.due("FULL", AlpCommune.FULL, -4);
        AlpCommune y = new AlpCommune();
        x.house(1, 1, 1, 1);
        Check.due("an object of its own", y.count(0), 0);
    }

    private static void house() {
        AlpCommune x = new AlpCommune();
        for (int v : Check.outside(1, 9)) Check.due("hearths " + v, x.house(v, 1, 0, 0), -2);
        for (int v : Check.outside(1, 20)) Check.due("heads " + v, x.house(1, v, 0, 0), -2);
        for (int v : Check.outside(0, 99)) Check.due("cows " + v, x.house(1, 1, v, 0), -2);
        for (int v : Check.outside(0, 99999)) Check.due("hay " + v, x.house(1, 1, 0, v), -2);
        Check.due("BAD makes none", x.count(0), 0);
        Check.due("the least", x.house(1, 1, 0, 0), 0);
        Check.due("the greatest", x.house(9, 20, 99, 99999), 1);
        for (int i = 2; i < 10; i++) Check.due("house " + i, x.house(2, 3, 4, 5), i);
        Check.due("the 11th", x.house(2, 3, 4, 5), -4);
        Check.due("BAD ahead of FULL", x.house(0, 3, 4, 5), -2);
        Check.due("count(0)", x.count(0), 10);
    }

    private static void change() {
        AlpCommune x = new AlpCommune();
        Check.due("no house yet", x.change(0, 0, 1), -1);
        x.house(2, 3, 10, 50);
        for (int h : Check.outside(0, 0)) Check.due("house " + h, x.change(h, 0, 1), -1);
        for (int what : Check.outside(0, 3)) Check.due("what " + what, x.change(0, what, 1), -1);
        Check.due("NONE ahead of BAD", x.change(0, 4, -1), -1);
        for (int v : Check.outside(1, 9)) Check.due("hearths " + v, x.change(0, 0, v), -2);
        for (int v : Check.outside(1, 20)) Check.due("heads " + v, x.change(0, 1, v), -2);
        for (int v : Check.outside(0, 99)) Check.due("cows " + v, x.change(0, 2, v), -2);
        for (int v : Check.outside(0, 99999)) Check.due("hay " + v, x.change(0, 3, v), -2);
        Check.due("hearths", x.change(0, 0, 9), 2);
        Check.due("hearths again", x.change(0, 0, 1), 9);
        Check.due("heads", x.change(0, 1, 20), 3);
        Check.due("cows", x.change(0, 2, 99), 10);
        Check.due("hay", x.change(0, 3, 99999), 50);
        Check.due("told hearths", x.told(0, 0), 1);
        Check.due("told heads", x.told(0, 1), 20);
        Check.due("told cows", x.told(0, 2), 99);
        Check.due("told hay", x.told(0, 3), 99999);
        // Cows that are up on two alps together bound it.
        x.right(0, 1, 999);
        x.alp(0, 9);
        x.alp(1, 9);
        x.counts();
        Check.live(x, 150);
        Check.due("drive", x.drive(0, 0, 5), 5);
        Check.due("drive", x.drive(0, 1, 7), 7);
        Check.due("below those up", x.change(0, 2, 11), -2);
        Check.due("as many as are up", x.change(0, 2, 12), 99);
        Check.due("none at home", x.told(0, 5), 0);
    }

    private static void told() {
        AlpCommune x = new AlpCommune();
        Check.due("no house yet", x.told(0, 0), -5);
        x.house(2, 3, 10, 50);
        for (int h : Check.outside(0, 0)) Check.due("house " + h, x.told(h, 0), -5);
        for (int what : Check.outside(0, 12)) Check.due("what " + what, x.told(0, what), -5);
        int[] first = {2, 3, 10, 50, 0, 10, 0, 0, 0, 0, 0, 0, 0};
        for (int what = 0; what < first.length; what++) Check.due("told " + what, x.told(0, what), first[what]);
        x.house(9, 20, 99, 7);
        Check.due("each its own", x.told(1, 1), 20);
        Check.due("each its own", x.told(0, 1), 3);
    }

    private static void counts() {
        AlpCommune x = new AlpCommune();
        Check.due("without houses", x.counts(), 0);
        x.house(2, 3, 10, 50);
        x.house(2, 3, 0, 99999);
        Check.due("counts", x.counts(), 100049);
        Check.due("counted", x.told(0, 9), 50);
        x.change(0, 3, 20);
        Check.due("counted stays", x.told(0, 9), 50);
        Check.due("hay is no less for it", x.told(1, 3), 99999);
        x.days(1);
        Check.due("cows eat, counted stays", x.told(0, 9), 50);
        Check.due("counts again", x.counts(), 100009);
        Check.due("counted again", x.told(0, 9), 10);
        for (int i = 2; i < 10; i++) x.house(1, 1, 0, 99999);
        Check.due("much hay", x.counts(), 9 * 99999 + 10);
    }
}
