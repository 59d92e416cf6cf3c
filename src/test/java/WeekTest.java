/** Promises 14 to 16: week, order, fill. */
public final class WeekTest {
    public static void main(String[] args) {
        leastWork();
        firstOfSeveral();
        roundOfStores();
        refusals();
        theMostTakings();
        theFirstEightPlayable();
        Check.finish();
    }

    private static void dueOrder(PlayCompany x, int... want) {
        for (int i = 0; i < want.length; i++) {
            Check.due("order(" + i + ")", x.order(i), want[i]);
        }
        Check.due("order behind the last", x.order(want.length), -1);
        Check.due("count(5)", x.count(5), want.length);
    }

    private static void leastWork() {
        PlayCompany x = new PlayCompany();
        x.play(1, 0, 0, 30);
        x.play(1, 0, 6, 1);
        x.play(1, 0, 3, 5);
        Check.due("week(7)", x.week(7), 5 + 6 + 0 + 12 + 3);
        dueOrder(x, 2, 1, 0);
        Check.due("week(5)", x.week(5), 5 + 6 + 15);
        dueOrder(x, 2, 0);
        Check.due("week(1)", x.week(1), 30);
        dueOrder(x, 0);
    }

    private static void firstOfSeveral() {
        PlayCompany x = new PlayCompany();
        for (int i = 0; i < 12; i++) {
            x.play(1, 0, 4, 2);
        }
        Check.due("week of eight", x.week(0xFF0), 2);
        dueOrder(x, 4, 5, 6, 7, 8, 9, 10, 11);
        Check.due("week of others", x.week(0b100000101001), 2);
        dueOrder(x, 0, 3, 5, 11);
    }

    private static void roundOfStores() {
        PlayCompany x = new PlayCompany();
        x.play(1, 0, 11, 0);
        x.play(1, 0, 1, 0);
        x.play(1, 0, 5, 0);
        Check.due("week(3)", x.week(3), 4);
        Check.due("week(5)", x.week(5), 12);
        Check.due("week(7)", x.week(7), 12);
        dueOrder(x, 0, 1, 2);
    }

    private static void refusals() {
        PlayCompany x = new PlayCompany();
        Check.due("week(0)", x.week(0), -1);
        for (int i = 0; i < 12; i++) {
            Check.due("week with a bit too many", x.week(1 << i), -1);
            x.play(1, 0, 0, 0);
        }
        Check.due("week(3)", x.week(3), 0);
        Check.due("week of nine", x.week(0x1FF), -1);
        Check.due("week of twelve", x.week(0xFFF), -1);
        Check.due("week(4096)", x.week(4096), -1);
        Check.due("week of the sign", x.week(Integer.MIN_VALUE), -1);
        Check.due("week(-1)", x.week(-1), -1);
        Check.due("week(0)", x.week(0), -1);
        dueOrder(x, 0, 1);
        Check.due("order(-1)", x.order(-1), -1);
        Check.due("order(8)", x.order(8), -1);
    }

    private static void theMostTakings() {
        PlayCompany x = new PlayCompany();
        Check.due("fill without plays", x.fill(1000), 0);
        x.play(100, 50, 0, 0);
        x.play(60, 30, 0, 0);
        x.play(40, 20, 0, 0);
        x.play(10, 0, 0, 0);
        Check.due("one before two, since it begins lesser", x.fill(100), 1);
        Check.due("fill(99)", x.fill(99), 2);
        Check.due("all but the one for nothing", x.fill(200), 7);
        Check.due("fill(160)", x.fill(160), 3);
        Check.due("fill(39)", x.fill(39), 0);
        Check.due("fill(10)", x.fill(10), 0);
        Check.due("fill(0)", x.fill(0), 0);
        Check.due("fill(1000)", x.fill(1000), 7);
        Check.due("fill(-1)", x.fill(-1), -1);
        Check.due("fill(1001)", x.fill(1001), -1);
        PlayCompany y = new PlayCompany();
        y.play(10, 0, 0, 0);
        y.play(10, 5, 0, 0);
        y.play(10, 5, 0, 0);
        Check.due("the lesser play where they first differ", y.fill(20), 6);
        Check.due("with one for nothing that begins lesser", y.fill(30), 7);
        Check.due("of two alike the lesser", y.fill(10), 2);
    }

    private static void theFirstEightPlayable() {
        PlayCompany x = new PlayCompany();
        for (int i = 0; i < 12; i++) {
            x.play(10, i, 0, 0);
        }
        Check.due("the first eight", x.fill(1000), 0xFF);
        x.role(2, 0, 1, true);
        x.role(3, 0, 1, true);
        Check.due("the first eight that are playable", x.fill(1000), 0x3F3);
        Check.due("one of them", x.fill(10), 0x200);
        x.actor(1, 0, 0, false);
        x.plays(0, 0, 1);
        Check.due("and with who can", x.fill(1000), 0xFF);
    }
}
