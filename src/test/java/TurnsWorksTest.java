/** Promises 38 to 40: turn, work, year. */
public final class TurnsWorksTest {
    public static void main(String[] args) {
        turnAnswers();
        passedOver();
        watch();
        work();
        year();
        yearsEnds();
        greatDebts();
        Check.end();
    }

    private static void turns(String what, AlpCommune x, int kind, int... houses) {
        for (int i = 0; i < houses.length; i++) Check.due(what + ", turn " + i, x.turn(kind), houses[i]);
    }

    private static void turnAnswers() {
        AlpCommune x = new AlpCommune();
        for (int kind = 0; kind < 3; kind++) Check.due("no houses " + kind, x.turn(kind), -1);
        x.house(1, 2, 0, 0);
        for (int kind : Check.outside(0, 2)) Check.due("kind " + kind, x.turn(kind), -1);
        Check.due("no COWS", x.turn(0), -1);
        Check.due("no HEADS", x.turn(2), -1);
        Check.due("watch", x.turn(1), 0);
        x.change(0, 1, 3);
        x.change(0, 2, 1);
        turns("one house", x, 0, 0, 0, 0);
        turns("one house", x, 1, 0, 0, 0);
        turns("one house", x, 2, 0, 0, 0);
        x.house(1, 3, 1, 0);
        turns("another came", x, 2, 1, 0, 1);
    }

    private static void passedOver() {
        AlpCommune x = new AlpCommune();
        x.house(1, 2, 5, 0);
        x.house(1, 3, 0, 0);
        x.house(1, 20, 1, 0);
        x.house(1, 1, 99, 0);
        turns("herd", x, 0, 0, 2, 3, 0, 2);
        turns("office", x, 2, 1, 2, 1);
        turns("watch", x, 1, 0, 1, 2, 3, 0);
        x.change(3, 2, 0);
        turns("each its own", x, 0, 0);
        x.change(1, 1, 2);
        turns("each its own", x, 2, 2, 2);
        x.change(2, 1, 2);
        Check.due("nobody can", x.turn(2), -1);
        AlpCommune y = new AlpCommune();
        for (int i = 0; i < 3; i++) y.house(1, 3, 1, 0);
        Check.pass(y, "watch 0");
        for (int kind = 0; kind < 3; kind++) turns("from 0 on, kind " + kind, y, kind, 0, 1, 2, 0);
        x.change(0, 1, 3);
        x.change(3, 1, 3);
        turns("behind the one that had it last", x, 2, 3, 0, 3);
    }

    private static void watch() {
        AlpCommune x = new AlpCommune();
        for (int h = 0; h < 3; h++) x.house(h + 1, 1, 0, 0);
        Check.pass(x, "watch 3 if hearths=2");
        Check.pass(x, "watch 0 if hearths=3");
        turns("times in a row", x, 1, 0, 1, 1, 1, 2, 0, 1);
        Check.pass(x, "watch 2 if hearths=2");
        turns("by the value as it comes again", x, 1, 1, 2, 0, 1);
        x.change(1, 0, 1);
        turns("not as it was", x, 1, 2, 0, 1, 2);
        Check.pass(x, "watch 99999");
        for (int i = 0; i < 40; i++) Check.due("many times", x.turn(1), 2);
        turns("the others are each their own", x, 2);
        Check.pass(x, "watch 0");
        turns("at least once", x, 1, 0, 1, 2, 0);
    }

    private static void work() {
        AlpCommune x = new AlpCommune();
        x.house(1, 1, 0, 0);
        x.house(1, 1, 0, 0);
        for (int h : Check.outside(0, 1)) Check.due("house " + h, x.work(h, 1), -1);
        for (int n : Check.outside(1, 999)) Check.due("n " + n, x.work(0, n), -2);
        Check.due("NONE ahead of BAD", x.work(2, 0), -1);
        Check.due("work", x.work(0, 1), 1);
        Check.due("work", x.work(0, 999), 1000);
        Check.due("each its own", x.work(1, 5), 5);
        Check.due("told", x.told(0, 12), 1000);
        Check.live(x, 400);
        Check.due("since the latest year()", x.work(0, 1), 1001);
        x.year();
        Check.due("nothing is done then", x.told(0, 12), 0);
        Check.due("work", x.work(0, 2), 2);
    }

    private static void year() {
        AlpCommune x = new AlpCommune();
        x.house(1, 4, 0, 0);
        x.house(2, 5, 0, 0);
        x.house(3, 6, 0, 0);
        x.work(0, 3);
        x.work(1, 10);
        x.work(2, 99);
        Check.due("coins", x.year(), 25);
        Check.due("DEBT of 0", x.told(0, 4), 25);
        Check.due("DEBT of 1", x.told(1, 4), 0);
        Check.due("DEBT of 2", x.told(2, 4), 0);
        for (int h = 0; h < 3; h++) Check.due("done by " + h, x.told(h, 12), 0);
        x.work(0, 7);
        Check.due("told already", x.year(), -3);
        Check.due("STATE changes nothing", x.told(0, 12), 7);
        Check.pass(x, "heads 3 if hearths=2");
        Check.pass(x, "fine 11 if hearths=3");
        Check.live(x, 359);
        Check.due("told already", x.year(), -3);
        x.days(1);
        Check.due("by values", x.year(), 5 + 15 * 5 + 12 * 11);
        Check.due("DEBT of 0", x.told(0, 4), 30);
        Check.due("DEBT of 1", x.told(1, 4), 75);
        Check.due("DEBT of 2", x.told(2, 4), 132);
    }

    private static void yearsEnds() {
        AlpCommune x = new AlpCommune();
        Check.due("without houses", x.year(), 0);
        Check.due("told already", x.year(), -3);
        x.house(1, 1, 0, 0);
        Check.live(x, 3 * 360 + 5);
        Check.due("of the years between nothing is told", x.year(), 10);
        Check.due("told already", x.year(), -3);
        AlpCommune y = new AlpCommune();
        y.house(1, 1, 0, 0);
        y.days(120);
        Check.due("in the first year", y.year(), 10);
        Check.live(y, 240);
        Check.due("in the second", y.year(), 10);
    }

    private static void greatDebts() {
        AlpCommune x = new AlpCommune();
        x.house(1, 20, 0, 0);
        x.house(2, 20, 0, 0);
        x.house(3, 20, 0, 0);
        Check.pass(x, "fine 99999");
        Check.pass(x, "heads 99999 if hearths=2");
        Check.pass(x, "heads 0 if hearths=3");
        int first = 40 * 99999;
        Check.due("what became DEBT", x.year(), first + 99999999);
        Check.due("DEBT of 0", x.told(0, 4), first);
        Check.due("DEBT of 1", x.told(1, 4), 99999999);
        Check.due("DEBT of 2", x.told(2, 4), 0);
        Check.live(x, 360);
        Check.due("what became DEBT", x.year(), first);
        Check.due("DEBT of 1", x.told(1, 4), 99999999);
    }
}
