import java.util.NoSuchElementException;

/** A call that is refused changes nothing of what the other calls tell: a test for each promise. */
public final class RefusedCallsTest {
    private static final int MIN = Integer.MIN_VALUE;
    private static final int MAX = Integer.MAX_VALUE;

    public static void main(String[] args) {
        Check.sentence("2: NONE", RefusedCallsTest::actor);
        Check.sentence("3: False", RefusedCallsTest::plays);
        Check.sentence("4: False", RefusedCallsTest::comes);
        Check.sentence("5: NONE", RefusedCallsTest::play);
        Check.sentence("6: NONE", RefusedCallsTest::role);
        Check.sentence("7: False", RefusedCallsTest::does);
        Check.sentence("8: False", RefusedCallsTest::doubles);
        Check.sentence("10: NONE (nothing changes); -2", RefusedCallsTest::fit);
        Check.sentence("11: NONE (it stays)", RefusedCallsTest::anew);
        Check.sentence("14: NONE", RefusedCallsTest::week);
        Check.sentence("16: NONE", RefusedCallsTest::fill);
        Check.sentence("17: NONE", RefusedCallsTest::fact);
        Check.sentence("18: NoSuchElementException", RefusedCallsTest::where);
        Check.sentence("20: NONE", RefusedCallsTest::feed);
        Check.sentence("21: NONE", RefusedCallsTest::end);
        Check.sentence("22: a FAULT, but for the TAPE", RefusedCallsTest::terms);
        Check.sentence("25: NoSuchElementException", RefusedCallsTest::about);
        Check.sentence("9, 12, 13, 15, 19, 23, 24, 26: calls that ask", RefusedCallsTest::callsThatAsk);
        Check.finish();
    }

    /** Something of everything; play 1 has no cast. */
    private static PlayCompany desk() {
        PlayCompany x = new PlayCompany();
        x.actor(10, -5000, -400, false);
        x.actor(20, -9000, 30, true);
        x.plays(0, 0, 5);
        x.plays(1, 0, 3);
        x.plays(1, 4, 7);
        x.play(60, 100, 3, 5);
        x.play(90, 200, 9, 8);
        x.role(0, 0, 2, true);
        x.role(0, 4, 2, false);
        x.role(0, 0, 4, false);
        x.role(1, 7, 1, true);
        x.does(0, 1, 0);
        x.doubles(0, 0, 2);
        x.fit(0);
        x.week(3);
        x.fact(0, 0, 1);
        x.fact(1, -5, -1);
        x.fact(2, -5, -2);
        Check.dueTerms(x, "pay 5 if guest; may if age >= 10; most 1 if guest; least 1 if roles >= 2;", 0);
        Check.feedText(x, "may if");
        return x;
    }

    private static PlayCompany fullDesk() {
        PlayCompany x = new PlayCompany();
        for (int i = 0; i < 12; i++) {
            x.actor(1 + i, 0, 0, false);
            x.plays(i, 0, 1);
            x.play(1, 1, 0, 0);
        }
        for (int i = 0; i < 8; i++) {
            x.role(0, 0, 1, false);
        }
        for (int i = 0; i < 3; i++) {
            x.doubles(0, i, i + 1);
        }
        x.fit(0);
        return x;
    }

    private static void actor() {
        PlayCompany x = desk();
        String before = Check.stateOf(x);
        int[][] wrong = {{0, 0, 0}, {101, 0, 0}, {MIN, 0, 0}, {MAX, 0, 0}, {1, -100001, 0}, {1, 100001, 0}, {1, MIN, 0},
            {1, MAX, 0}, {1, 0, -100001}, {1, 0, 100001}, {1, 0, MIN}, {1, 0, MAX}};
        for (int[] one : wrong) {
            Check.due("actor(" + one[0] + ", " + one[1] + ", " + one[2] + ", true)", x.actor(one[0], one[1], one[2], true), -1);
        }
        Check.dueState(x, before);
    }

    private static void plays() {
        PlayCompany x = desk();
        String before = Check.stateOf(x);
        int[][] wrong = {{-1, 0, 9}, {2, 0, 9}, {MIN, 0, 9}, {MAX, 0, 9}, {0, -1, 9}, {0, 12, 9}, {0, MIN, 9}, {0, MAX, 9},
            {0, 0, -1}, {0, 0, 10}, {0, 0, MIN}, {0, 0, MAX}};
        for (int[] one : wrong) {
            Check.due("plays(" + one[0] + ", " + one[1] + ", " + one[2] + ")", x.plays(one[0], one[1], one[2]), false);
        }
        Check.dueState(x, before);
    }

    private static void comes() {
        PlayCompany x = desk();
        String before = Check.stateOf(x);
        for (int actor : new int[] {-1, 2, 12, MIN, MAX}) {
            Check.due("comes(" + actor + ", false)", x.comes(actor, false), false);
        }
        Check.dueState(x, before);
    }

    private static void play() {
        PlayCompany x = desk();
        String before = Check.stateOf(x);
        int[][] wrong = {{0, 9, 0, 0}, {241, 9, 0, 0}, {1, -1, 0, 0}, {1, 1001, 0, 0}, {1, 9, -1, 0}, {1, 9, 12, 0}, {1, 9, 0, -1},
            {1, 9, 0, 31}, {MIN, 9, 0, 0}, {MAX, 9, 0, 0}, {1, MIN, 0, 0}, {1, MAX, 0, 0}, {1, 9, MIN, 0}, {1, 9, MAX, 0},
            {1, 9, 0, MIN}, {1, 9, 0, MAX}};
        for (int[] one : wrong) {
            Check.due("play(" + one[0] + ", " + one[1] + ", " + one[2] + ", " + one[3] + ")",
                    x.play(one[0], one[1], one[2], one[3]), -1);
        }
        Check.dueState(x, before);
    }

    private static void role() {
        PlayCompany x = desk();
        String before = Check.stateOf(x);
        int[][] wrong = {{-1, 0, 1}, {2, 0, 1}, {MIN, 0, 1}, {MAX, 0, 1}, {0, -1, 1}, {0, 12, 1}, {0, MIN, 1}, {0, MAX, 1},
            {0, 0, 0}, {0, 0, 10}, {0, 0, MIN}, {0, 0, MAX}};
        for (int[] one : wrong) {
            Check.due("role(" + one[0] + ", " + one[1] + ", " + one[2] + ", true)", x.role(one[0], one[1], one[2], true), -1);
        }
        Check.dueState(x, before);
        PlayCompany full = fullDesk();
        Check.due("a 9th role", full.role(0, 11, 9, true), -1);
        Check.due("playable()", full.playable(), 0xFFF);
        Check.due("anew()", full.anew(), 0);
    }

    private static void does() {
        PlayCompany x = desk();
        x.plays(1, 11, 9);
        String before = Check.stateOf(x);
        int[][] wrong = {{-1, 0, 11}, {2, 0, 11}, {MIN, 0, 11}, {MAX, 0, 11}, {0, -1, 11}, {0, 3, 11}, {0, MIN, 11}, {0, MAX, 11},
            {0, 2, -1}, {0, 2, 12}, {0, 2, MIN}, {0, 2, MAX}, {0, 1, 0}, {0, 1, 4}};
        for (int[] one : wrong) {
            Check.due("does(" + one[0] + ", " + one[1] + ", " + one[2] + ")", x.does(one[0], one[1], one[2]), false);
        }
        Check.dueState(x, before);
    }

    private static void doubles() {
        PlayCompany x = desk();
        String before = Check.stateOf(x);
        int[][] wrong = {{-1, 0, 1}, {2, 0, 1}, {MIN, 0, 1}, {MAX, 0, 1}, {0, -1, 1}, {0, 3, 1}, {0, MIN, 1}, {0, MAX, 1},
            {0, 1, -1}, {0, 1, 3}, {0, 1, MIN}, {0, 1, MAX}, {0, 1, 1}, {0, 0, 2}, {0, 2, 0}};
        for (int[] one : wrong) {
            Check.due("doubles(" + one[0] + ", " + one[1] + ", " + one[2] + ")", x.doubles(one[0], one[1], one[2]), false);
        }
        Check.dueState(x, before);
        Check.due("fit(0)", x.fit(0), 3);
        Check.dueState(x, before);
        PlayCompany full = fullDesk();
        Check.due("a fourth", full.doubles(0, 6, 7), false);
        for (int actor = 1; actor < 12; actor++) {
            full.comes(actor, false);
        }
        Check.due("fit(0)", full.fit(0), 2);
        for (int role = 0; role < 3; role++) {
            full.does(0, role, 1);
        }
        full.plays(0, 0, 0);
        full.plays(0, 1, 1);
        Check.due("the former three are", full.fit(0), 2);
        Check.dueHands(full, 0, 0, -1, -1);
    }

    private static void fit() {
        PlayCompany x = desk();
        String before = Check.stateOf(x);
        Check.due("fit(1)", x.fit(1), -1);
        for (int play : new int[] {-1, 2, 12, MIN, MAX}) {
            Check.due("fit(" + play + ")", x.fit(play), -2);
        }
        Check.dueState(x, before);
        Check.due("anew()", x.anew(), 0);
        Check.dueState(x, before);
    }

    private static void anew() {
        PlayCompany x = desk();
        x.comes(0, false);
        x.comes(1, false);
        String before = Check.stateOf(x);
        Check.due("anew()", x.anew(), -1);
        Check.due("anew()", x.anew(), -1);
        Check.dueState(x, before);
        x.comes(0, true);
        x.comes(1, true);
        Check.due("anew()", x.anew(), 0);
    }

    private static void week() {
        PlayCompany x = desk();
        String before = Check.stateOf(x);
        for (int set : new int[] {0, 4, 5, 7, -1, MIN, MAX, MIN | 1, 1 << 12 | 1}) {
            Check.due("week(" + set + ")", x.week(set), -1);
        }
        Check.dueState(x, before);
        PlayCompany full = fullDesk();
        Check.due("week(0x7)", full.week(0x7), 0);
        Check.due("week(0x1FF)", full.week(0x1FF), -1);
        Check.due("count(5)", full.count(5), 3);
    }

    private static void fill() {
        PlayCompany x = desk();
        String before = Check.stateOf(x);
        for (int minutes : new int[] {-1, 1001, MIN, MAX}) {
            Check.due("fill(" + minutes + ")", x.fill(minutes), -1);
        }
        Check.dueState(x, before);
    }

    private static void fact() {
        PlayCompany x = desk();
        String before = Check.stateOf(x);
        int[][] wrong = {{-1, 0, 5}, {20, 0, 5}, {MIN, 0, 5}, {MAX, 0, 5}, {0, -100001, 5}, {0, 100001, 5}, {0, MIN, 5}, {0, MAX, 5},
            {0, 0, -3}, {0, 0, 12}, {0, 0, MIN}, {0, 0, MAX}};
        for (int[] one : wrong) {
            Check.due("fact(" + one[0] + ", " + one[1] + ", " + one[2] + ")", x.fact(one[0], one[1], one[2]), -1);
        }
        Check.dueState(x, before);
        Check.due("the next number", x.fact(0, 0, 0), 3);
    }

    private static void where() {
        PlayCompany x = desk();
        String before = Check.stateOf(x);
        int[][] wrong = {{-1, 0, 0}, {20, 0, 0}, {MIN, 0, 0}, {MAX, 0, 0}, {0, 0, -1}, {0, 0, 4}, {0, 0, MIN}, {0, 0, MAX}};
        for (int[] one : wrong) {
            Check.dueNoWhere(x, one[0], one[1], one[2]);
        }
        Check.dueState(x, before);
    }

    private static void feed() {
        PlayCompany x = desk();
        x.end(0);
        for (int i = 0; i < 40; i++) {
            x.feed(0x20202020, 0x20202020, 0x20202020, 0x20202020, 0x20202020);
        }
        x.end(781);
        String before = Check.stateOf(x);
        Check.due("feed(..)", x.feed(1, 2, 3, 4, 5), -1);
        Check.dueState(x, before);
        Check.due("terms()", x.terms(), 0);
    }

    private static void end() {
        PlayCompany x = desk();
        String before = Check.stateOf(x);
        for (int n : new int[] {-1, 7, 800, MIN, MAX}) {
            Check.due("end(" + n + ")", x.end(n), -1);
        }
        Check.dueState(x, before);
        Check.feedText(x, " guest;");
        Check.due("terms()", x.terms(), 0);
        Check.due("count(3)", x.count(3), 1);
    }

    private static void terms() {
        PlayCompany x = desk();
        x.end(0);
        String before = Check.stateOf(x);
        String[] wrong = {"pay 9 if guest", "may if guest; least 5 if guest; #", "word", "may if (((((((((guest)))))))));"};
        for (String text : wrong) {
            Check.feedText(x, text);
            Check.due("terms() of '" + text + "' has a fault", x.terms() > 0, true);
        }
        Check.dueState(x, before);
    }

    private static void about() {
        PlayCompany x = desk();
        String before = Check.stateOf(x);
        int[][] wrong = {{-1, 0}, {2, 0}, {12, 0}, {MIN, 0}, {MAX, 0}, {0, -1}, {0, 8}, {0, MIN}, {0, MAX}};
        for (int[] one : wrong) {
            Check.dueNoAbout(x, one[0], 0, one[1]);
        }
        Check.dueState(x, before);
    }

    private static void callsThatAsk() {
        PlayCompany x = desk();
        String before = Check.stateOf(x);
        for (int number : new int[] {MIN, -100001, -3, -2, -1, 0, 1, 2, 3, 8, 12, 20, 32, 1000, MAX}) {
            x.can(number, 0, 0);
            x.can(0, number, 0);
            x.can(0, 0, number);
            x.hand(number);
            x.playable();
            x.order(number);
            x.fill(number);
            x.held(number, 0);
            x.held(0, number);
            x.may(number, 0);
            x.may(0, number);
            x.broken(number);
            x.count(number);
            try {
                x.where(0, number, 3);
                x.about(0, number, 7);
            } catch (NoSuchElementException e) {
                Check.fail("where or about threw for day " + number);
            }
        }
        Check.dueState(x, before);
    }
}
