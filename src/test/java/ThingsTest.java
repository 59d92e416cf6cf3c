/** Promises 17 to 19: fact, where, held. */
public final class ThingsTest {
    public static void main(String[] args) {
        facts();
        whatWasKnownWhen();
        whoHolds();
        Check.finish();
    }

    private static void facts() {
        PlayCompany x = new PlayCompany();
        Check.due("item -1", x.fact(-1, 0, 0), -1);
        Check.due("item 20", x.fact(20, 0, 0), -1);
        Check.due("day too early", x.fact(0, -100001, 0), -1);
        Check.due("day too late", x.fact(0, 100001, 0), -1);
        Check.due("holder -3", x.fact(0, 0, -3), -1);
        Check.due("holder 12", x.fact(0, 0, 12), -1);
        Check.due("count(2)", x.count(2), 0);
        Check.due("the edges", x.fact(19, -100000, 11), 0);
        Check.due("the edges", x.fact(0, 100000, -2), 1);
        for (int i = 2; i < 200; i++) {
            Check.due("fact " + i, x.fact(i % 20, i, -1), i);
        }
        Check.due("a 201st fact", x.fact(0, 0, 0), -1);
        Check.due("count(2)", x.count(2), 200);
        Check.dueWhere(x, 0, 100000, 200, -2);
        Check.dueNoWhere(x, 0, 0, 201);
    }

    private static void whatWasKnownWhen() {
        PlayCompany x = new PlayCompany();
        x.fact(3, 10, 5);
        x.fact(4, 0, 7);
        x.fact(3, 0, 6);
        x.fact(3, 10, -1);
        Check.dueWhere(x, 3, 10, 0, -3);
        Check.dueWhere(x, 3, 10, 1, 5);
        Check.dueWhere(x, 3, 9, 1, -3);
        Check.dueWhere(x, 3, 9, 3, 6);
        Check.dueWhere(x, 3, 10, 3, 5);
        Check.dueWhere(x, 3, 10, 4, -1);
        Check.dueWhere(x, 3, Integer.MAX_VALUE, 4, -1);
        Check.dueWhere(x, 3, Integer.MIN_VALUE, 4, -3);
        Check.dueWhere(x, 4, 0, 1, -3);
        Check.dueWhere(x, 4, 0, 2, 7);
        Check.dueNoWhere(x, -1, 0, 0);
        Check.dueNoWhere(x, 20, 0, 0);
        Check.dueNoWhere(x, 3, 0, -1);
        Check.dueNoWhere(x, 3, 0, 5);
    }

    private static void whoHolds() {
        PlayCompany x = new PlayCompany();
        x.fact(0, 0, 2);
        x.fact(1, 0, 2);
        x.fact(1, 5, -1);
        x.fact(2, 5, -1);
        x.fact(2, 5, -2);
        Check.due("held(2, -1)", x.held(2, -1), 0);
        Check.due("held(2, 0)", x.held(2, 0), 2);
        Check.due("held(2, 5)", x.held(2, 5), 1);
        Check.due("held(-1, 4)", x.held(-1, 4), 0);
        Check.due("held(-1, 5)", x.held(-1, 5), 1);
        Check.due("held(-2, 5)", x.held(-2, 5), 1);
        Check.due("no holder is told", x.held(-3, 5), 0);
        Check.due("no such holder", x.held(12, 5), 0);
        x.fact(1, 2, -2);
        Check.due("what is told later of before", x.held(2, 2), 1);
        Check.due("changes nothing behind it", x.held(-1, 5), 1);
    }
}
