/** The edges of promises 17 to 19 (fact, where, held), a test for each sentence. */
public final class ThingsEdgesTest {
    private static final int[] NO_NUMBERS = {Integer.MIN_VALUE, Integer.MAX_VALUE, 32, -32};

    public static void main(String[] args) {
        Check.sentence("3: FACTS are numbered from 0 on as they are told", ThingsEdgesTest::numbersFromZeroOn);
        Check.sentence("17: NONE: no such ITEM", ThingsEdgesTest::factWithoutItem);
        Check.sentence("17: NONE: no such day", ThingsEdgesTest::factWithoutDay);
        Check.sentence("17: NONE: no such HOLDER", ThingsEdgesTest::factWithoutHolder);
        Check.sentence("17: NONE: there are 200", ThingsEdgesTest::fact201);
        Check.sentence("3: a PLAY's basket, whether there is that PLAY or not", ThingsEdgesTest::basketsOfNoPlay);
        Check.sentence("3: NONE the shelf, -2 lost", ThingsEdgesTest::shelfAndLost);
        Check.sentence("3: that one of them about it", ThingsEdgesTest::aboutThatItem);
        Check.sentence("3: the greatest day not behind this one", ThingsEdgesTest::greatestDay);
        Check.sentence("3: of several the last told", ThingsEdgesTest::lastTold);
        Check.sentence("3: as known behind the first n FACTS", ThingsEdgesTest::firstFacts);
        Check.sentence("3: -3: there is none such", ThingsEdgesTest::noneSuch);
        Check.sentence("18: NoSuchElementException: no such ITEM", ThingsEdgesTest::whereWithoutItem);
        Check.sentence("18: NoSuchElementException: n below 0", ThingsEdgesTest::whereBelowZero);
        Check.sentence("18: NoSuchElementException: n above how many there are", ThingsEdgesTest::whereAboveAll);
        Check.sentence("18: on a day, also one that no FACT may have", ThingsEdgesTest::whereOnAnyDay);
        Check.sentence("19: how many ITEMS a HOLDER has: none to all 20", ThingsEdgesTest::noneToAll);
        Check.sentence("19: NONE: the shelf; -2: lost", ThingsEdgesTest::heldByShelfAndLost);
        Check.sentence("19: on a day", ThingsEdgesTest::heldOnADay);
        Check.sentence("19: as known behind all FACTS", ThingsEdgesTest::heldBehindAllFacts);
        Check.sentence("19: a number that is no HOLDER has none", ThingsEdgesTest::heldByNoHolder);
        Check.finish();
    }

    private static void numbersFromZeroOn() {
        PlayCompany x = new PlayCompany();
        for (int number = 0; number < 40; number++) {
            Check.due("count(2)", x.count(2), number);
            Check.due("fact(..)", x.fact(number % 3, -number, 0), number);
        }
        Check.due("the same once more is another one", x.fact(0, 0, 0), 40);
        Check.due("count(2)", x.count(2), 41);
    }

    private static void factWithoutItem() {
        PlayCompany x = new PlayCompany();
        for (int item : NO_NUMBERS) {
            Check.due("fact(" + item + ", 0, 0)", x.fact(item, 0, 0), -1);
        }
        Check.due("fact(-1, 0, 0)", x.fact(-1, 0, 0), -1);
        Check.due("fact(20, 0, 0)", x.fact(20, 0, 0), -1);
        Check.due("count(2)", x.count(2), 0);
        Check.due("held(0, 0)", x.held(0, 0), 0);
        Check.due("fact(0, 0, 0)", x.fact(0, 0, 0), 0);
        Check.due("fact(19, 0, 0)", x.fact(19, 0, 0), 1);
        Check.dueWhere(x, 0, 0, 2, 0);
        Check.dueWhere(x, 19, 0, 2, 0);
    }

    private static void factWithoutDay() {
        PlayCompany x = new PlayCompany();
        for (int day : new int[] {-100001, 100001, Integer.MIN_VALUE, Integer.MAX_VALUE}) {
            Check.due("fact(0, " + day + ", 0)", x.fact(0, day, 0), -1);
        }
        Check.due("count(2)", x.count(2), 0);
        Check.due("fact(0, -100000, 3)", x.fact(0, -100000, 3), 0);
        Check.due("fact(0, 100000, 4)", x.fact(0, 100000, 4), 1);
        Check.dueWhere(x, 0, -100001, 2, -3);
        Check.dueWhere(x, 0, -100000, 2, 3);
        Check.dueWhere(x, 0, 99999, 2, 3);
        Check.dueWhere(x, 0, 100000, 2, 4);
    }

    private static void factWithoutHolder() {
        PlayCompany x = new PlayCompany();
        for (int holder : NO_NUMBERS) {
            Check.due("fact(0, 0, " + holder + ")", x.fact(0, 0, holder), -1);
        }
        Check.due("fact(0, 0, -3)", x.fact(0, 0, -3), -1);
        Check.due("fact(0, 0, 12)", x.fact(0, 0, 12), -1);
        Check.due("count(2)", x.count(2), 0);
        for (int holder = -2; holder < 12; holder++) {
            Check.due("fact(0, 0, " + holder + ")", x.fact(0, 0, holder), holder + 2);
            Check.dueWhere(x, 0, 0, holder + 3, holder);
        }
    }

    private static void fact201() {
        PlayCompany x = new PlayCompany();
        for (int number = 0; number < 200; number++) {
            Check.due("fact(..)", x.fact(number % 20, number, number % 12), number);
        }
        Check.due("a 201st", x.fact(0, 1000, -2), -1);
        Check.due("once more", x.fact(19, 1000, -2), -1);
        Check.due("count(2)", x.count(2), 200);
        Check.due("held(-2, 1000)", x.held(-2, 1000), 0);
        Check.dueWhere(x, 0, 1000, 200, 180 % 12);
        Check.dueWhere(x, 19, 1000, 200, 199 % 12);
        Check.dueWhere(x, 19, 1000, 199, 179 % 12);
        Check.dueNoWhere(x, 0, 1000, 201);
    }

    private static void basketsOfNoPlay() {
        PlayCompany x = new PlayCompany();
        Check.due("fact(0, 0, 11)", x.fact(0, 0, 11), 0);
        Check.due("held(11, 0)", x.held(11, 0), 1);
        Check.dueWhere(x, 0, 0, 1, 11);
        x.play(1, 0, 0, 0);
        Check.due("fact(1, 0, 0)", x.fact(1, 0, 0), 1);
        Check.due("fact(2, 0, 1)", x.fact(2, 0, 1), 2);
        Check.due("held(0, 0)", x.held(0, 0), 1);
        Check.due("held(1, 0)", x.held(1, 0), 1);
    }

    private static void shelfAndLost() {
        PlayCompany x = new PlayCompany();
        x.fact(0, 0, PlayCompany.NONE);
        x.fact(1, 0, -2);
        Check.dueWhere(x, 0, 0, 2, -1);
        Check.dueWhere(x, 1, 0, 2, -2);
        x.fact(1, 1, 5);
        Check.dueWhere(x, 1, 1, 3, 5);
    }

    private static void aboutThatItem() {
        PlayCompany x = new PlayCompany();
        x.fact(5, 3, 1);
        x.fact(6, 4, 2);
        x.fact(4, 4, 3);
        Check.dueWhere(x, 5, 10, 3, 1);
        Check.dueWhere(x, 6, 10, 3, 2);
        Check.dueWhere(x, 4, 10, 3, 3);
        Check.dueWhere(x, 7, 10, 3, -3);
        Check.dueWhere(x, 0, 10, 3, -3);
    }

    private static void greatestDay() {
        PlayCompany x = new PlayCompany();
        x.fact(0, 5, 1);
        x.fact(0, 9, 2);
        x.fact(0, 7, 3);
        x.fact(0, -4, 4);
        int[][] due = {{-5, -3}, {-4, 4}, {4, 4}, {5, 1}, {6, 1}, {7, 3}, {8, 3}, {9, 2}, {10, 2}};
        for (int[] day : due) {
            Check.dueWhere(x, 0, day[0], 4, day[1]);
        }
    }

    private static void lastTold() {
        PlayCompany x = new PlayCompany();
        x.fact(0, 5, 1);
        x.fact(0, 5, 2);
        x.fact(1, 5, 3);
        x.fact(0, 5, 0);
        x.fact(0, 4, 9);
        Check.dueWhere(x, 0, 5, 5, 0);
        Check.dueWhere(x, 0, 6, 5, 0);
        Check.dueWhere(x, 0, 5, 3, 2);
        Check.due("held(0, 5)", x.held(0, 5), 1);
        Check.due("held(1, 5)", x.held(1, 5), 0);
        Check.due("held(2, 5)", x.held(2, 5), 0);
        Check.due("held(9, 4)", x.held(9, 4), 1);
    }

    private static void firstFacts() {
        PlayCompany x = new PlayCompany();
        x.fact(0, 10, 1);
        x.fact(0, 20, 2);
        x.fact(0, 10, 3);
        int[] due = {-3, 1, 2, 2};
        int[] dueBefore = {-3, 1, 1, 3};
        for (int n = 0; n <= 3; n++) {
            Check.dueWhere(x, 0, 20, n, due[n]);
            Check.dueWhere(x, 0, 19, n, dueBefore[n]);
        }
    }

    private static void noneSuch() {
        PlayCompany x = new PlayCompany();
        for (int item = 0; item < 20; item++) {
            Check.dueWhere(x, item, 0, 0, -3);
        }
        x.fact(3, 0, 0);
        Check.dueWhere(x, 3, 0, 0, -3);
        Check.dueWhere(x, 3, -1, 1, -3);
        Check.dueWhere(x, 2, 0, 1, -3);
        Check.dueWhere(x, 3, 0, 1, 0);
    }

    private static void whereWithoutItem() {
        PlayCompany x = new PlayCompany();
        x.fact(0, 0, 0);
        x.fact(19, 0, 1);
        for (int item : NO_NUMBERS) {
            Check.dueNoWhere(x, item, 0, 0);
            Check.dueNoWhere(x, item, 0, 2);
        }
        Check.dueNoWhere(x, -1, 0, 2);
        Check.dueNoWhere(x, 20, 0, 2);
        Check.dueWhere(x, 0, 0, 2, 0);
        Check.dueWhere(x, 19, 0, 2, 1);
    }

    private static void whereBelowZero() {
        PlayCompany x = new PlayCompany();
        Check.dueNoWhere(x, 0, 0, -1);
        x.fact(0, 0, 0);
        Check.dueNoWhere(x, 0, 0, -1);
        Check.dueNoWhere(x, 0, 0, Integer.MIN_VALUE);
        Check.dueWhere(x, 0, 0, 0, -3);
    }

    private static void whereAboveAll() {
        PlayCompany x = new PlayCompany();
        Check.dueNoWhere(x, 0, 0, 1);
        for (int all = 1; all <= 20; all++) {
            x.fact(0, 0, 0);
            Check.dueWhere(x, 0, 0, all, 0);
            Check.dueNoWhere(x, 0, 0, all + 1);
        }
        Check.dueNoWhere(x, 0, 0, 200);
        Check.dueNoWhere(x, 0, 0, Integer.MAX_VALUE);
    }

    private static void whereOnAnyDay() {
        PlayCompany x = new PlayCompany();
        x.fact(0, -100000, 1);
        x.fact(0, 100000, 2);
        Check.dueWhere(x, 0, 100001, 2, 2);
        Check.dueWhere(x, 0, Integer.MAX_VALUE, 2, 2);
        Check.dueWhere(x, 0, -100001, 2, -3);
        Check.dueWhere(x, 0, Integer.MIN_VALUE, 2, -3);
        Check.due("held on the greatest day", x.held(2, Integer.MAX_VALUE), 1);
        Check.due("held on the least day", x.held(1, Integer.MIN_VALUE), 0);
    }

    private static void noneToAll() {
        PlayCompany x = new PlayCompany();
        for (int item = 0; item < 20; item++) {
            Check.due("held(7, 0)", x.held(7, 0), item);
            x.fact(item, 0, 7);
        }
        Check.due("held(7, 0) of all", x.held(7, 0), 20);
        for (int holder = -2; holder < 12; holder++) {
            Check.due("held(" + holder + ", 0)", x.held(holder, 0), holder == 7 ? 20 : 0);
        }
        x.fact(0, 0, 7);
        Check.due("an item told twice is one", x.held(7, 0), 20);
    }

    private static void heldByShelfAndLost() {
        PlayCompany x = new PlayCompany();
        Check.due("an item of which nothing is told is not on the shelf", x.held(-1, 0), 0);
        Check.due("nor lost", x.held(-2, 0), 0);
        x.fact(0, 0, -1);
        x.fact(1, 0, -1);
        x.fact(2, 0, -2);
        Check.due("held(-1, 0)", x.held(-1, 0), 2);
        Check.due("held(-2, 0)", x.held(-2, 0), 1);
        x.fact(1, 0, -2);
        Check.due("held(-1, 0)", x.held(-1, 0), 1);
        Check.due("held(-2, 0)", x.held(-2, 0), 2);
    }

    private static void heldOnADay() {
        PlayCompany x = new PlayCompany();
        x.fact(0, 10, 4);
        x.fact(1, 11, 4);
        x.fact(0, 12, 5);
        int[] due = {0, 1, 2, 1};
        for (int i = 0; i < due.length; i++) {
            Check.due("held(4, " + (9 + i) + ")", x.held(4, 9 + i), due[i]);
        }
        Check.due("held(5, 11)", x.held(5, 11), 0);
        Check.due("held(5, 12)", x.held(5, 12), 1);
    }

    private static void heldBehindAllFacts() {
        PlayCompany x = new PlayCompany();
        x.fact(0, 10, 4);
        Check.due("held(4, 10)", x.held(4, 10), 1);
        x.fact(0, 9, 5);
        Check.due("one of before, told later", x.held(4, 10), 1);
        Check.due("holds before", x.held(5, 9), 1);
        x.fact(0, 10, 6);
        Check.due("one of the same day, told later", x.held(4, 10), 0);
        Check.due("holds then", x.held(6, 10), 1);
    }

    private static void heldByNoHolder() {
        PlayCompany x = new PlayCompany();
        x.fact(0, 0, 11);
        x.fact(1, 0, -2);
        Check.due("held(-3, 0)", x.held(-3, 0), 0);
        Check.due("held(12, 0)", x.held(12, 0), 0);
        for (int holder : NO_NUMBERS) {
            Check.due("held(" + holder + ", 0)", x.held(holder, 0), 0);
        }
    }
}
