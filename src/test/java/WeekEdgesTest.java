/** The edges of promises 14 to 16 (week, order, fill), a test for each sentence. */
public final class WeekEdgesTest {
    private static final int[] NO_NUMBERS = {-1, -2, Integer.MIN_VALUE, Integer.MAX_VALUE};

    public static void main(String[] args) {
        Check.sentence("2: a WEEK of 1 PLAY: WORK: the WEIGHT of the first one", WeekEdgesTest::weekOfOne);
        Check.sentence("2: twice how far their STORES are on the round of 12 (0 to 6)", WeekEdgesTest::roundOfStores);
        Check.sentence("2: their WEIGHTS multiplied and divided by 10 (cut)", WeekEdgesTest::weightsCut);
        Check.sentence("2: for each two that follow one another", WeekEdgesTest::eachTwo);
        Check.sentence("2: the order of the least WORK", WeekEdgesTest::leastWork);
        Check.sentence("2: of several the first (the lesser PLAY where they first differ)", WeekEdgesTest::firstOfSeveral);
        Check.sentence("2: a WEEK of 8 PLAYS", WeekEdgesTest::weekOfEight);
        Check.sentence("14: bit i: PLAY i", WeekEdgesTest::weekBits);
        Check.sentence("14: PLAYS need not be playable", WeekEdgesTest::weekOfUnplayable);
        Check.sentence("14: NONE: a bit without a PLAY", WeekEdgesTest::bitWithoutPlay);
        Check.sentence("14: NONE: more than 8", WeekEdgesTest::moreThanEight);
        Check.sentence("14: NONE: none", WeekEdgesTest::emptyWeek);
        Check.sentence("14: a refused WEEK leaves the one AT HAND", WeekEdgesTest::refusedWeek);
        Check.sentence("15: NONE: none such", WeekEdgesTest::orderOutside);
        Check.sentence("15: the WEEK AT HAND is the last one", WeekEdgesTest::lastWeek);
        Check.sentence("16: minutes (0 to 1000)", WeekEdgesTest::fillMinutes);
        Check.sentence("2: MINUTES together are not more than these", WeekEdgesTest::notMore);
        Check.sentence("2: the set of the most TAKINGS in all", WeekEdgesTest::mostTakings);
        Check.sentence("2: of several the one that has the lesser PLAY where they first differ", WeekEdgesTest::lesserPlay);
        Check.sentence("2: the one that goes on being behind the one that ends", WeekEdgesTest::goesOn);
        Check.sentence("2: of the PLAYS that are playable now", WeekEdgesTest::playableAlone);
        Check.sentence("2: of the first 8 of these, by numbers", WeekEdgesTest::firstEight);
        Check.sentence("16: the empty set", WeekEdgesTest::emptySet);
        Check.sentence("16: FILL leaves the WEEK AT HAND", WeekEdgesTest::fillLeavesWeek);
        Check.finish();
    }

    private static PlayCompany alike(int plays) {
        PlayCompany x = new PlayCompany();
        for (int play = 0; play < plays; play++) {
            x.play(1, 0, 0, 0);
        }
        return x;
    }

    private static void dueWeek(PlayCompany x, int set, int work, int... order) {
        Check.due("week(" + set + ")", x.week(set), work);
        dueOrder(x, order);
    }

    private static void dueOrder(PlayCompany x, int... order) {
        for (int i = 0; i < order.length; i++) {
            Check.due("order(" + i + ")", x.order(i), order[i]);
        }
        Check.due("order(" + order.length + ")", x.order(order.length), -1);
        Check.due("count(5)", x.count(5), order.length);
    }

    private static void weekOfOne() {
        PlayCompany x = new PlayCompany();
        x.play(1, 0, 6, 0);
        x.play(1, 0, 11, 30);
        x.play(1, 0, 3, 17);
        dueWeek(x, 1, 0, 0);
        dueWeek(x, 2, 30, 1);
        dueWeek(x, 4, 17, 2);
    }

    private static void roundOfStores() {
        int[] far = {0, 1, 2, 3, 4, 5, 6, 5, 4, 3, 2, 1};
        for (int from = 0; from < 12; from++) {
            PlayCompany x = new PlayCompany();
            x.play(1, 0, from, 0);
            for (int way = 1; way < 12; way++) {
                x.play(1, 0, (from + way) % 12, 0);
                Check.due("from store " + from + " on by " + way, x.week(1 | 1 << way), 2 * far[way]);
            }
        }
        PlayCompany y = alike(2);
        Check.due("one and the same store", y.week(3), 0);
    }

    private static void weightsCut() {
        int[][] weights = {{0, 0}, {0, 30}, {1, 9}, {3, 3}, {2, 5}, {1, 10}, {1, 19}, {4, 5}, {29, 30}, {29, 29}, {30, 30}};
        int[] work = {0, 0, 1, 3, 3, 2, 2, 6, 116, 113, 120};
        for (int i = 0; i < work.length; i++) {
            PlayCompany x = new PlayCompany();
            x.play(1, 0, 0, weights[i][0]);
            x.play(1, 0, 0, weights[i][1]);
            Check.due("weights " + weights[i][0] + " and " + weights[i][1], x.week(3), work[i]);
            dueOrder(x, 0, 1);
        }
    }

    private static void eachTwo() {
        PlayCompany x = new PlayCompany();
        for (int i = 0; i < 3; i++) {
            x.play(1, 0, 0, 7);
        }
        dueWeek(x, 7, 7 + 4 + 4, 0, 1, 2);
        PlayCompany y = new PlayCompany();
        y.play(1, 0, 0, 0);
        y.play(1, 0, 2, 0);
        y.play(1, 0, 4, 0);
        dueWeek(y, 7, 4 + 4, 0, 1, 2);
    }

    private static void leastWork() {
        PlayCompany x = new PlayCompany();
        x.play(1, 0, 0, 2);
        x.play(1, 0, 0, 1);
        dueWeek(x, 3, 1, 1, 0);
        PlayCompany y = new PlayCompany();
        y.play(1, 0, 0, 0);
        y.play(1, 0, 6, 0);
        y.play(1, 0, 1, 0);
        y.play(1, 0, 5, 0);
        dueWeek(y, 15, 2 + 8 + 2, 0, 2, 3, 1);
        PlayCompany z = new PlayCompany();
        z.play(1, 0, 0, 20);
        z.play(1, 0, 0, 20);
        z.play(1, 0, 0, 1);
        dueWeek(z, 7, 20 + 2 + 2, 0, 2, 1);
        z.play(1, 0, 6, 0);
        dueWeek(z, 15, 0 + 12 + 2 + 2, 3, 0, 2, 1);
    }

    private static void firstOfSeveral() {
        PlayCompany x = alike(12);
        dueWeek(x, 0b101, 0, 0, 2);
        dueWeek(x, 0b111, 0, 0, 1, 2);
        dueWeek(x, 0xFF, 0, 0, 1, 2, 3, 4, 5, 6, 7);
        PlayCompany y = new PlayCompany();
        y.play(1, 0, 3, 0);
        y.play(1, 0, 6, 0);
        y.play(1, 0, 0, 0);
        dueWeek(y, 7, 12, 1, 0, 2);
        PlayCompany z = new PlayCompany();
        z.play(1, 0, 0, 5);
        z.play(1, 0, 3, 5);
        z.play(1, 0, 9, 5);
        z.play(1, 0, 6, 5);
        dueWeek(z, 15, 5 + 3 * 8, 0, 1, 3, 2);
    }

    private static void weekOfEight() {
        PlayCompany x = new PlayCompany();
        for (int i = 0; i < 8; i++) {
            x.play(1, 0, i % 2 * 6, 30);
        }
        dueWeek(x, 0xFF, 30 + 7 * 90 + 12, 0, 2, 4, 6, 1, 3, 5, 7);
        PlayCompany y = new PlayCompany();
        int[] stores = {7, 0, 6, 1, 5, 2, 4, 3};
        for (int store : stores) {
            y.play(1, 0, store, 0);
        }
        dueWeek(y, 0xFF, 14, 0, 2, 4, 6, 7, 5, 3, 1);
    }

    private static void weekBits() {
        PlayCompany x = alike(12);
        for (int play = 0; play < 12; play++) {
            dueWeek(x, 1 << play, 0, play);
        }
        dueWeek(x, 0b100000000001, 0, 0, 11);
        dueWeek(x, 0b110110110110, 0, 1, 2, 4, 5, 7, 8, 10, 11);
    }

    private static void weekOfUnplayable() {
        PlayCompany x = alike(2);
        x.role(0, 0, 1, true);
        Check.due("playable()", x.playable(), 2);
        dueWeek(x, 3, 0, 0, 1);
        dueWeek(x, 1, 0, 0);
    }

    private static void bitWithoutPlay() {
        PlayCompany x = new PlayCompany();
        Check.due("week(1) without plays", x.week(1), -1);
        for (int plays = 1; plays <= 12; plays++) {
            x.play(1, 0, 0, 0);
            Check.due("the bit behind the last", x.week(1 << plays), -1);
            Check.due("the bit behind the last, and the first", x.week(1 << plays | 1), -1);
            Check.due("the sign, and the first", x.week(Integer.MIN_VALUE | 1), -1);
            Check.due("the last", x.week(1 << plays - 1), 0);
        }
        for (int set : NO_NUMBERS) {
            Check.due("week(" + set + ")", x.week(set), -1);
        }
        Check.due("week(1 << 31)", x.week(1 << 31), -1);
        Check.due("week(1 << 16)", x.week(1 << 16), -1);
    }

    private static void moreThanEight() {
        PlayCompany x = alike(12);
        Check.due("week of 8", x.week(0xFF), 0);
        Check.due("count(5)", x.count(5), 8);
        Check.due("week of 9", x.week(0x1FF), -1);
        Check.due("another week of 9", x.week(0xFF8), -1);
        Check.due("week of 10", x.week(0x3FF), -1);
        Check.due("week of 12", x.week(0xFFF), -1);
        Check.due("another week of 8", x.week(0xF0F), 0);
        dueOrder(x, 0, 1, 2, 3, 8, 9, 10, 11);
    }

    private static void emptyWeek() {
        PlayCompany x = new PlayCompany();
        Check.due("week(0) without plays", x.week(0), -1);
        x.play(1, 0, 0, 0);
        Check.due("week(0)", x.week(0), -1);
        Check.due("count(5)", x.count(5), 0);
    }

    private static void refusedWeek() {
        PlayCompany x = alike(10);
        dueWeek(x, 0b110, 0, 1, 2);
        Check.due("week(0)", x.week(0), -1);
        dueOrder(x, 1, 2);
        Check.due("week(1 << 10)", x.week(1 << 10), -1);
        dueOrder(x, 1, 2);
        Check.due("week of 9", x.week(0x1FF), -1);
        dueOrder(x, 1, 2);
    }

    private static void orderOutside() {
        PlayCompany x = alike(9);
        for (int i = -1; i < 9; i++) {
            Check.due("order(" + i + ") without a week", x.order(i), -1);
        }
        dueWeek(x, 0x1FE, 0, 1, 2, 3, 4, 5, 6, 7, 8);
        for (int i : NO_NUMBERS) {
            Check.due("order(" + i + ")", x.order(i), -1);
        }
        Check.due("order(8)", x.order(8), -1);
        Check.due("order(32)", x.order(32), -1);
        dueWeek(x, 2, 0, 1);
        for (int i = 1; i < 9; i++) {
            Check.due("order(" + i + ") of a shorter week", x.order(i), -1);
        }
    }

    private static void lastWeek() {
        PlayCompany x = alike(3);
        dueWeek(x, 7, 0, 0, 1, 2);
        dueWeek(x, 6, 0, 1, 2);
        dueWeek(x, 4, 0, 2);
        x.play(1, 0, 0, 0);
        x.fit(0);
        dueOrder(x, 2);
        dueWeek(x, 15, 0, 0, 1, 2, 3);
    }

    private static void fillMinutes() {
        PlayCompany x = new PlayCompany();
        x.play(1, 1, 0, 0);
        Check.due("fill(-1)", x.fill(-1), -1);
        Check.due("fill(1001)", x.fill(1001), -1);
        for (int minutes : NO_NUMBERS) {
            Check.due("fill(" + minutes + ")", x.fill(minutes), -1);
        }
        Check.due("fill(0)", x.fill(0), 0);
        Check.due("fill(1)", x.fill(1), 1);
        Check.due("fill(1000)", x.fill(1000), 1);
        PlayCompany y = new PlayCompany();
        Check.due("fill(-1) without plays", y.fill(-1), -1);
        Check.due("fill(1001) without plays", y.fill(1001), -1);
        Check.due("fill(1000) without plays", y.fill(1000), 0);
    }

    private static void notMore() {
        PlayCompany x = new PlayCompany();
        x.play(200, 10, 0, 0);
        x.play(240, 11, 0, 0);
        Check.due("fill(199)", x.fill(199), 0);
        Check.due("fill(200)", x.fill(200), 1);
        Check.due("fill(239)", x.fill(239), 1);
        Check.due("fill(240)", x.fill(240), 2);
        Check.due("fill(439)", x.fill(439), 2);
        Check.due("fill(440)", x.fill(440), 3);
        PlayCompany y = new PlayCompany();
        for (int i = 0; i < 8; i++) {
            y.play(200, 1000, 0, 0);
        }
        Check.due("1000 minutes of 200 each", y.fill(1000), 0b11111);
        Check.due("999 minutes of 200 each", y.fill(999), 0b1111);
        PlayCompany z = new PlayCompany();
        for (int i = 0; i < 8; i++) {
            z.play(125, 1000, 0, 0);
        }
        Check.due("all eight", z.fill(1000), 0xFF);
        Check.due("all but the last", z.fill(999), 0x7F);
    }

    private static void mostTakings() {
        PlayCompany x = new PlayCompany();
        x.play(10, 5, 0, 0);
        x.play(10, 6, 0, 0);
        x.play(20, 12, 0, 0);
        Check.due("the one of more", x.fill(10), 2);
        Check.due("one alone is more than two", x.fill(20), 4);
        Check.due("fill(30)", x.fill(30), 6);
        Check.due("fill(40)", x.fill(40), 7);
        PlayCompany y = new PlayCompany();
        y.play(10, 5, 0, 0);
        y.play(10, 6, 0, 0);
        y.play(20, 10, 0, 0);
        Check.due("two are more than one", y.fill(20), 3);
    }

    private static void lesserPlay() {
        PlayCompany x = new PlayCompany();
        for (int i = 0; i < 4; i++) {
            x.play(10, 5, 0, 0);
        }
        Check.due("of four", x.fill(10), 1);
        Check.due("two of four", x.fill(20), 3);
        Check.due("three of four", x.fill(30), 7);
        PlayCompany y = new PlayCompany();
        y.play(30, 6, 0, 0);
        y.play(10, 3, 0, 0);
        y.play(20, 3, 0, 0);
        Check.due("{0} before {1, 2}", y.fill(30), 1);
        PlayCompany z = new PlayCompany();
        z.play(10, 3, 0, 0);
        z.play(30, 6, 0, 0);
        z.play(20, 3, 0, 0);
        Check.due("{0, 2} before {1}", z.fill(30), 5);
        PlayCompany w = new PlayCompany();
        w.play(10, 3, 0, 0);
        w.play(10, 1, 0, 0);
        w.play(20, 2, 0, 0);
        w.play(10, 1, 0, 0);
        Check.due("{0, 1, 3} before {0, 2}", w.fill(30), 0b1011);
    }

    private static void goesOn() {
        PlayCompany x = new PlayCompany();
        x.play(10, 5, 0, 0);
        x.play(10, 0, 0, 0);
        Check.due("{0} before {0, 1}", x.fill(20), 1);
        x.play(10, 4, 0, 0);
        Check.due("{0, 1, 2} before {0, 2}", x.fill(30), 7);
        Check.due("{0, 2} alone has room", x.fill(20), 5);
        PlayCompany y = new PlayCompany();
        y.play(10, 0, 0, 0);
        Check.due("{} before {0}", y.fill(1000), 0);
        y.play(10, 0, 0, 0);
        y.play(10, 1, 0, 0);
        Check.due("{0, 1, 2} before {2}", y.fill(30), 7);
        Check.due("{0, 2} before {1, 2}", y.fill(20), 5);
    }

    private static void playableAlone() {
        PlayCompany x = new PlayCompany();
        for (int i = 0; i < 3; i++) {
            x.play(10, 5, 0, 0);
        }
        x.role(0, 0, 1, true);
        x.role(2, 0, 1, false);
        Check.due("fill(30)", x.fill(30), 6);
        x.actor(1, 0, 0, false);
        x.plays(0, 0, 1);
        Check.due("with who can", x.fill(30), 7);
        x.comes(0, false);
        Check.due("who is away", x.fill(30), 6);
    }

    private static void firstEight() {
        PlayCompany x = new PlayCompany();
        for (int i = 0; i < 12; i++) {
            x.play(10, i < 8 ? 1 : 1000, 0, 0);
        }
        Check.due("the first eight", x.fill(1000), 0xFF);
        Check.due("of the first eight", x.fill(10), 1);
        x.role(7, 0, 1, true);
        Check.due("the ninth is the eighth that is playable", x.fill(1000), 0x17F);
        Check.due("and has the most", x.fill(10), 0x100);
        x.role(0, 0, 1, true);
        x.role(1, 0, 1, true);
        x.role(2, 0, 1, true);
        Check.due("all that are left are eight", x.fill(1000), 0xF78);
        x.role(3, 0, 1, true);
        Check.due("seven", x.fill(1000), 0xF70);
    }

    private static void emptySet() {
        PlayCompany x = new PlayCompany();
        Check.due("no plays", x.fill(500), 0);
        x.play(100, 9, 0, 0);
        Check.due("too long", x.fill(99), 0);
        x.role(0, 0, 1, true);
        Check.due("not playable", x.fill(1000), 0);
    }

    private static void fillLeavesWeek() {
        PlayCompany x = alike(3);
        dueWeek(x, 6, 0, 1, 2);
        x.fit(1);
        x.fill(1000);
        x.playable();
        dueOrder(x, 1, 2);
        Check.due("count(4)", x.count(4), 1);
    }
}
