/** Promises 6 to 12: right, split, join, lend, leave, rightOf, parts. */
public final class RightsTest {
    public static void main(String[] args) {
        right();
        split();
        splitFull();
        join();
        joinAboveTheMost();
        lend();
        leave();
        rightOf();
        parts();
        Check.end();
    }

    private static AlpCommune withHouses(int n) {
        AlpCommune x = new AlpCommune();
        for (int i = 0; i < n; i++) x.house(1, 1, 10, 100);
        return x;
    }

    private static void right() {
        AlpCommune x = withHouses(2);
        for (int h : Check.outside(0, 1)) Check.due("house " + h, x.right(h, 0, 1), -1);
        Check.due("NONE ahead of BAD", x.right(2, 9, 0), -1);
        for (int kind : Check.outside(0, 5)) Check.due("kind " + kind, x.right(0, kind, 1), -2);
        Check.due("a HALF", x.right(0, 4, 1), -2);
        for (int parts : Check.outside(1, 999)) Check.due("parts " + parts, x.right(0, 1, parts), -2);
        Check.due("none was made", x.count(1), 0);
        int[] kinds = {0, 1, 2, 3, 5};
        for (int i = 0; i < kinds.length; i++) Check.due("kind " + kinds[i], x.right(1, kinds[i], 999), i);
        for (int i = 5; i < 50; i++) Check.due("right " + i, x.right(0, 1, 1), i);
        Check.due("the 51st", x.right(0, 1, 1), -4);
        Check.due("BAD ahead of FULL", x.right(0, 1, 0), -2);
        Check.due("count(1)", x.count(1), 50);
    }

    private static void split() {
        AlpCommune x = withHouses(2);
        int[] kinds = {0, 1, 2, 3, 5};
        for (int kind : kinds) x.right(1, kind, 10);
        for (int r : Check.outside(0, 4)) Check.due("right " + r, x.split(r, 1), -1);
        for (int n : Check.outside(1, 9)) Check.due("n " + n, x.split(1, n), -2);
        Check.due("BAD ahead of STATE", x.split(0, 10), -2);
        Check.due("a RIGHT", x.split(0, 1), -3);
        Check.due("a STRANGE", x.split(4, 1), -3);
        Check.due("a COW", x.split(1, 9), 5);
        Check.due("its kind", x.rightOf(5, 0), 4);
        Check.due("its parts", x.rightOf(5, 2), 9);
        Check.due("its owner", x.rightOf(5, 1), 1);
        Check.due("what is left", x.rightOf(1, 2), 1);
        Check.due("what is left is a COW", x.rightOf(1, 0), 1);
        Check.due("one part can't be split", x.split(1, 1), -2);
        Check.due("a HALF", x.split(5, 4), 6);
        Check.due("is a HALF", x.rightOf(6, 0), 4);
        Check.due("a WOOD", x.split(2, 3), 7);
        Check.due("is a WOOD", x.rightOf(7, 0), 2);
        Check.due("an HOUR", x.split(3, 3), 8);
        Check.due("is an HOUR", x.rightOf(8, 0), 3);
        Check.due("whole of 0", x.parts(-1, 0), 10);
        x.lend(3, 0, 2);
        Check.due("lent", x.split(3, 1), -3);
        Check.due("BAD ahead of lent", x.split(3, 7), -2);
        x.days(2);
        Check.due("lent no more", x.split(3, 1), 9);
        Check.due("not lent", x.rightOf(9, 5), -1);
        Check.due("held by its owner", x.rightOf(9, 3), 1);
    }

    private static void splitFull() {
        AlpCommune x = withHouses(1);
        x.right(0, 0, 5);
        for (int i = 1; i < 50; i++) x.right(0, 1, 5);
        Check.due("FULL", x.split(1, 2), -4);
        Check.due("STATE ahead of FULL", x.split(0, 2), -3);
        Check.due("FULL changes nothing", x.rightOf(1, 2), 5);
    }

    private static void join() {
        AlpCommune x = withHouses(3);
        x.right(0, 1, 10);
        x.right(0, 1, 20);
        x.right(1, 1, 30);
        x.right(0, 2, 40);
        x.right(0, 0, 50);
        x.right(0, 0, 60);
        x.split(0, 4);
        for (int r : Check.outside(0, 6)) {
            Check.due("right " + r, x.join(r, 0), -1);
            Check.due("other " + r, x.join(0, r), -1);
            Check.due("NONE ahead of BAD", x.join(r, r), -1);
        }
        Check.due("one", x.join(1, 1), -2);
        Check.due("one of no common", x.join(4, 4), -2);
        Check.due("another owner", x.join(0, 2), -3);
        Check.due("another common", x.join(0, 3), -3);
        Check.due("no common both", x.join(4, 5), -3);
        Check.due("a HALF to a COW", x.join(6, 1), 24);
        Check.due("it has 0", x.rightOf(6, 2), 0);
        Check.due("from one with 0", x.join(6, 0), -3);
        Check.due("to one with 0", x.join(0, 6), -3);
        Check.due("the whole stays", x.parts(-1, 0), 60);
        x.lend(0, 2, 1);
        Check.due("lent", x.join(0, 1), -3);
        Check.due("to a lent one", x.join(1, 0), -3);
        x.days(1);
        Check.due("lent no more", x.join(1, 0), 30);
        Check.due("all of it", x.rightOf(0, 2), 30);
    }

    private static void joinAboveTheMost() {
        AlpCommune x = withHouses(1);
        x.right(0, 3, 999);
        x.right(0, 3, 999);
        Check.due("above 999", x.join(0, 1), 1998);
        Check.due("the whole", x.parts(-1, 2), 1998);
        Check.due("fewer than it has", x.split(1, 1500), 2);
        Check.due("what is left", x.rightOf(1, 2), 498);
        Check.due("a joined one can't be split", x.split(0, 1), -2);
        Check.due("a joined one is left", x.leave(0, 0), 0);
    }

    private static void lend() {
        AlpCommune x = withHouses(3);
        x.right(0, 1, 10);
        x.right(0, 5, 10);
        x.right(0, 0, 10);
        x.days(5);
        for (int r : Check.outside(0, 2)) Check.due("right " + r, x.lend(r, 1, 9), -1);
        for (int h : Check.outside(0, 2)) Check.due("house " + h, x.lend(0, h, 9), -1);
        for (int day : Check.outside(6, 7199)) Check.due("day " + day, x.lend(0, 1, day), -2);
        Check.due("NONE ahead of BAD", x.lend(0, 3, 5), -1);
        Check.due("BAD ahead of STATE", x.lend(0, 0, 5), -2);
        Check.due("to its owner", x.lend(0, 0, 9), -3);
        Check.due("a STRANGE", x.lend(1, 1, 9), -3);
        Check.due("a RIGHT", x.lend(2, 1, 7199), 1);
        Check.due("till", x.rightOf(2, 5), 7199);
        Check.due("lend", x.lend(0, 1, 7), 1);
        Check.due("lent", x.lend(0, 2, 9), -3);
        Check.due("held", x.rightOf(0, 3), 1);
        x.days(1);
        Check.due("held on the day ahead", x.rightOf(0, 3), 1);
        Check.due("lent on the day ahead", x.lend(0, 2, 9), -3);
        x.days(1);
        Check.due("held no more", x.rightOf(0, 3), 0);
        Check.due("lend again", x.lend(0, 2, 8), 1);
    }

    private static void leave() {
        AlpCommune x = withHouses(3);
        x.right(0, 1, 10);
        x.right(0, 5, 10);
        for (int r : Check.outside(0, 1)) Check.due("right " + r, x.leave(r, 1), -1);
        for (int h : Check.outside(0, 2)) Check.due("house " + h, x.leave(0, h), -1);
        Check.due("NONE ahead of STATE", x.leave(1, 3), -1);
        Check.due("a STRANGE", x.leave(1, 1), -3);
        x.lend(0, 1, 9);
        Check.due("leave", x.leave(0, 2), 0);
        Check.due("its owner", x.rightOf(0, 1), 2);
        Check.due("lent it stays", x.rightOf(0, 3), 1);
        Check.due("till", x.rightOf(0, 5), 9);
        Check.due("to who has it", x.leave(0, 2), 2);
        Check.due("to whom it is lent", x.leave(0, 1), 2);
        Check.due("still lent", x.rightOf(0, 5), 9);
    }

    private static void rightOf() {
        AlpCommune x = withHouses(2);
        Check.due("none yet", x.rightOf(0, 0), -5);
        int[] kinds = {0, 1, 2, 3, 5};
        for (int kind : kinds) x.right(1, kind, 10 + kind);
        x.split(1, 3);
        for (int r : Check.outside(0, 5)) Check.due("right " + r, x.rightOf(r, 0), -5);
        for (int what : Check.outside(0, 5)) Check.due("what " + what, x.rightOf(0, what), -5);
        int[] commons = {-1, 0, 1, 2, -1, 0};
        for (int r = 0; r < 6; r++) Check.due("common of " + r, x.rightOf(r, 4), commons[r]);
        x.lend(2, 0, 3);
        int[] lent = {2, 1, 12, 0, 1, 3};
        for (int what = 0; what < 6; what++) Check.due("lent, " + what, x.rightOf(2, what), lent[what]);
        x.days(3);
        int[] back = {2, 1, 12, 1, 1, -1};
        for (int what = 0; what < 6; what++) Check.due("back, " + what, x.rightOf(2, what), back[what]);
    }

    private static void parts() {
        AlpCommune x = withHouses(3);
        Check.due("no rights", x.parts(-1, 0), 0);
        x.right(0, 1, 10);
        x.right(1, 1, 20);
        x.right(0, 2, 30);
        x.right(0, 3, 40);
        x.right(0, 0, 50);
        x.right(0, 5, 60);
        x.split(0, 3);
        for (int h : Check.outside(-1, 2)) Check.due("house " + h, x.parts(h, 0), -1);
        for (int common : Check.outside(0, 2)) {
            Check.due("common " + common, x.parts(0, common), -1);
            Check.due("whole of common " + common, x.parts(-1, common), -1);
        }
        int[] wholes = {30, 30, 40};
        int[] held = {10, 30, 40};
        for (int common = 0; common < 3; common++) {
            Check.due("whole " + common, x.parts(-1, common), wholes[common]);
            Check.due("held " + common, x.parts(0, common), held[common]);
        }
        x.lend(0, 2, 1);
        Check.due("lent away", x.parts(0, 0), 3);
        Check.due("lent to", x.parts(2, 0), 7);
        Check.due("the whole stays", x.parts(-1, 0), 30);
        x.days(1);
        Check.due("back", x.parts(0, 0), 10);
        x.leave(6, 1);
        Check.due("left", x.parts(1, 0), 23);
    }
}
