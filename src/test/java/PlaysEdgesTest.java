/** The edges of promises 5 to 8 (play, role, does, doubles), a test for each sentence. */
public final class PlaysEdgesTest {
    private static final int[] NO_NUMBERS = {-1, -2, Integer.MIN_VALUE, Integer.MAX_VALUE, 32, 64, -32};

    public static void main(String[] args) {
        Check.sentence("5: a new PLAY: its number", PlaysEdgesTest::numbersFromZeroOn);
        Check.sentence("5: NONE: there are 12", PlaysEdgesTest::thirteenthPlay);
        Check.sentence("1: MINUTES (1 to 240)", PlaysEdgesTest::minutes);
        Check.sentence("1: TAKINGS (0 to 1000)", PlaysEdgesTest::takings);
        Check.sentence("1: a STORE (0 to 11)", PlaysEdgesTest::store);
        Check.sentence("1: WEIGHT (0 to 30)", PlaysEdgesTest::weight);
        Check.sentence("5: numbers are not as told: no number is used up", PlaysEdgesTest::refusedTakesNoNumber);
        Check.sentence("6: a ROLE more of a PLAY: its number", PlaysEdgesTest::rolesFromZeroOnInEachPlay);
        Check.sentence("6: NONE: no such PLAY", PlaysEdgesTest::roleWithoutPlay);
        Check.sentence("6: NONE: there are 8", PlaysEdgesTest::ninthRole);
        Check.sentence("6: NONE: no such KIND", PlaysEdgesTest::roleWithoutKind);
        Check.sentence("6: NONE: no such GRADE", PlaysEdgesTest::roleWithoutGrade);
        Check.sentence("1: ROLES: NEEDED or not", PlaysEdgesTest::neededOrNot);
        Check.sentence("7: a KIND does for a ROLE, too", PlaysEdgesTest::doesForThatRoleAlone);
        Check.sentence("7: False: no such PLAY", PlaysEdgesTest::doesWithoutPlay);
        Check.sentence("7: False: no such ROLE", PlaysEdgesTest::doesWithoutRole);
        Check.sentence("7: False: no such KIND", PlaysEdgesTest::doesWithoutKind);
        Check.sentence("7: False: it does already", PlaysEdgesTest::doesAlready);
        Check.sentence("8: two ROLES of a PLAY are a DOUBLE", PlaysEdgesTest::doubleOfThatPlayAlone);
        Check.sentence("8: False: no such ones", PlaysEdgesTest::doublesWithoutRoles);
        Check.sentence("8: False: one and the same", PlaysEdgesTest::oneAndTheSame);
        Check.sentence("8: False: they are already", PlaysEdgesTest::doubleAlready);
        Check.sentence("8: False: there are 3", PlaysEdgesTest::fourthDouble);
        Check.finish();
    }

    private static PlayCompany plays(int plays, int roles) {
        PlayCompany x = new PlayCompany();
        for (int play = 0; play < plays; play++) {
            x.play(1, 0, 0, 0);
            for (int role = 0; role < roles; role++) {
                x.role(play, 0, 1, false);
            }
        }
        return x;
    }

    private static void numbersFromZeroOn() {
        PlayCompany x = new PlayCompany();
        for (int number = 0; number < 12; number++) {
            Check.due("count(1)", x.count(1), number);
            Check.due("play(..)", x.play(1, 0, 0, number), number);
            Check.due("playable()", x.playable(), (1 << number + 1) - 1);
        }
        for (int number = 0; number < 12; number++) {
            Check.due("its weight", x.week(1 << number), number);
        }
    }

    private static void thirteenthPlay() {
        PlayCompany x = plays(12, 0);
        Check.due("a 13th", x.play(1, 1000, 0, 0), -1);
        Check.due("once more", x.play(240, 0, 11, 30), -1);
        Check.due("count(1)", x.count(1), 12);
        Check.due("playable()", x.playable(), 0xFFF);
        Check.due("fit(12)", x.fit(12), -2);
        Check.due("fit(11)", x.fit(11), 0);
        Check.due("week with a 13th", x.week(1 << 12), -1);
        Check.due("fill(1000)", x.fill(1000), 0);
    }

    private static void minutes() {
        PlayCompany x = new PlayCompany();
        for (int minutes : new int[] {0, 241, -1, 256 + 1, Integer.MIN_VALUE, Integer.MAX_VALUE}) {
            Check.due("play(" + minutes + ", ..)", x.play(minutes, 1, 0, 0), -1);
        }
        Check.due("count(1)", x.count(1), 0);
        Check.due("240 minutes", x.play(240, 2, 0, 0), 0);
        Check.due("1 minute", x.play(1, 1, 0, 0), 1);
        Check.due("fill(0)", x.fill(0), 0);
        Check.due("fill(1)", x.fill(1), 2);
        Check.due("fill(239)", x.fill(239), 2);
        Check.due("fill(240)", x.fill(240), 1);
        Check.due("fill(241)", x.fill(241), 3);
    }

    private static void takings() {
        PlayCompany x = new PlayCompany();
        for (int takings : new int[] {-1, 1001, Integer.MIN_VALUE, Integer.MAX_VALUE}) {
            Check.due("play(1, " + takings + ", ..)", x.play(1, takings, 0, 0), -1);
        }
        Check.due("count(1)", x.count(1), 0);
        Check.due("takings 0", x.play(1, 0, 0, 0), 0);
        Check.due("takings 999", x.play(1, 999, 0, 0), 1);
        Check.due("takings 1000", x.play(1, 1000, 0, 0), 2);
        Check.due("the most", x.fill(1), 4);
    }

    private static void store() {
        PlayCompany x = new PlayCompany();
        for (int store : new int[] {-1, 12, Integer.MIN_VALUE, Integer.MAX_VALUE}) {
            Check.due("play(1, 0, " + store + ", 0)", x.play(1, 0, store, 0), -1);
        }
        Check.due("count(1)", x.count(1), 0);
        Check.due("store 0", x.play(1, 0, 0, 0), 0);
        Check.due("store 11", x.play(1, 0, 11, 0), 1);
        Check.due("beside one another on the round", x.week(3), 2);
    }

    private static void weight() {
        PlayCompany x = new PlayCompany();
        for (int weight : new int[] {-1, 31, Integer.MIN_VALUE, Integer.MAX_VALUE}) {
            Check.due("play(1, 0, 0, " + weight + ")", x.play(1, 0, 0, weight), -1);
        }
        Check.due("count(1)", x.count(1), 0);
        Check.due("weight 0", x.play(1, 0, 0, 0), 0);
        Check.due("weight 30", x.play(1, 0, 0, 30), 1);
        Check.due("week(1)", x.week(1), 0);
        Check.due("week(2)", x.week(2), 30);
    }

    private static void refusedTakesNoNumber() {
        PlayCompany x = new PlayCompany();
        Check.due("play", x.play(5, 5, 5, 5), 0);
        Check.due("refused", x.play(0, 5, 5, 6), -1);
        Check.due("refused", x.play(5, 1001, 5, 6), -1);
        Check.due("refused", x.play(5, 5, 12, 6), -1);
        Check.due("refused", x.play(5, 5, 5, 31), -1);
        Check.due("count(1)", x.count(1), 1);
        Check.due("playable()", x.playable(), 1);
        Check.due("fit(1)", x.fit(1), -2);
        Check.due("the next", x.play(5, 5, 5, 7), 1);
        Check.due("week(1)", x.week(1), 5);
        Check.due("week(2)", x.week(2), 7);
    }

    private static void rolesFromZeroOnInEachPlay() {
        PlayCompany x = plays(2, 0);
        for (int number = 0; number < 8; number++) {
            Check.due("role of play 0", x.role(0, number, 1, false), number);
        }
        for (int number = 0; number < 8; number++) {
            Check.due("role of play 1", x.role(1, 11 - number, 1, false), number);
        }
        x.actor(1, 0, 0, false);
        x.plays(0, 4, 1);
        for (int role = 0; role < 8; role++) {
            Check.due("can(0, 0, " + role + ")", x.can(0, 0, role), role == 4 ? 1 : 0);
            Check.due("can(0, 1, " + role + ")", x.can(0, 1, role), role == 7 ? 1 : 0);
        }
    }

    private static void roleWithoutPlay() {
        PlayCompany x = plays(2, 0);
        for (int play : NO_NUMBERS) {
            Check.due("role(" + play + ", ..)", x.role(play, 0, 1, true), -1);
        }
        Check.due("role(2, ..)", x.role(2, 0, 1, true), -1);
        Check.due("role(12, ..)", x.role(12, 0, 1, true), -1);
        Check.due("playable()", x.playable(), 3);
        Check.due("role(1, ..)", x.role(1, 0, 1, true), 0);
        Check.due("playable()", x.playable(), 1);
        PlayCompany full = plays(12, 0);
        Check.due("role(12, ..) with 12", full.role(12, 0, 1, true), -1);
        Check.due("role(11, ..) with 12", full.role(11, 0, 1, true), 0);
    }

    private static void ninthRole() {
        PlayCompany x = plays(2, 8);
        Check.due("a 9th", x.role(0, 0, 1, true), -1);
        Check.due("once more", x.role(1, 0, 1, true), -1);
        Check.due("it is not needed, since it is not there", x.playable(), 3);
        x.actor(1, 0, 0, false);
        x.plays(0, 0, 9);
        Check.due("can the eighth", x.can(0, 0, 7), 1);
        Check.due("can the ninth", x.can(0, 0, 8), -1);
        Check.due("fit(0)", x.fit(0), 1);
        Check.due("does for a ninth", x.does(0, 8, 3), false);
        Check.due("doubles with a ninth", x.doubles(0, 7, 8), false);
    }

    private static void roleWithoutKind() {
        PlayCompany x = plays(1, 0);
        for (int kind : NO_NUMBERS) {
            Check.due("role(0, " + kind + ", 1, true)", x.role(0, kind, 1, true), -1);
        }
        Check.due("role(0, 12, 1, true)", x.role(0, 12, 1, true), -1);
        Check.due("playable()", x.playable(), 1);
        Check.due("kind 0", x.role(0, 0, 1, true), 0);
        Check.due("kind 11", x.role(0, 11, 1, true), 1);
        x.actor(1, 0, 0, false);
        x.plays(0, 11, 1);
        Check.due("can the role of kind 0", x.can(0, 0, 0), 0);
        Check.due("can the role of kind 11", x.can(0, 0, 1), 1);
    }

    private static void roleWithoutGrade() {
        PlayCompany x = plays(1, 0);
        for (int grade : new int[] {0, -1, 10, Integer.MIN_VALUE, Integer.MAX_VALUE}) {
            Check.due("role(0, 0, " + grade + ", true)", x.role(0, 0, grade, true), -1);
        }
        Check.due("playable()", x.playable(), 1);
        Check.due("grade 1", x.role(0, 0, 1, true), 0);
        Check.due("grade 9", x.role(0, 0, 9, true), 1);
        x.actor(1, 0, 0, false);
        x.plays(0, 0, 8);
        Check.due("can grade 1", x.can(0, 0, 0), 1);
        Check.due("can grade 9", x.can(0, 0, 1), 0);
    }

    private static void neededOrNot() {
        for (int needed = 0; needed < 8; needed++) {
            PlayCompany x = plays(1, 0);
            for (int role = 0; role < 8; role++) {
                x.role(0, role, 1, role == needed);
            }
            x.actor(1, 0, 0, false);
            for (int role = 0; role < 8; role++) {
                x.plays(0, role, role == needed ? 0 : 1);
            }
            Check.due("role " + needed + " is needed", x.fit(0), -1);
            x.plays(0, needed, 1);
            Check.due("role " + needed + " is had", x.fit(0), 1);
            Check.due("hand(" + needed + ")", x.hand(needed), 0);
        }
    }

    private static void doesForThatRoleAlone() {
        PlayCompany x = plays(2, 2);
        x.actor(1, 0, 0, false);
        x.plays(0, 11, 9);
        Check.due("does(0, 1, 11)", x.does(0, 1, 11), true);
        int[][] can = {{0, 1}, {0, 0}};
        for (int play = 0; play < 2; play++) {
            for (int role = 0; role < 2; role++) {
                Check.due("can(0, " + play + ", " + role + ")", x.can(0, play, role), can[play][role]);
            }
        }
    }

    private static void doesWithoutPlay() {
        PlayCompany x = plays(2, 1);
        for (int play : NO_NUMBERS) {
            Check.due("does(" + play + ", 0, 1)", x.does(play, 0, 1), false);
        }
        Check.due("does(2, 0, 1)", x.does(2, 0, 1), false);
        Check.due("does(12, 0, 1)", x.does(12, 0, 1), false);
        Check.due("does(1, 0, 1)", x.does(1, 0, 1), true);
        Check.due("does(0, 0, 1)", x.does(0, 0, 1), true);
    }

    private static void doesWithoutRole() {
        PlayCompany x = plays(2, 2);
        x.role(1, 0, 1, false);
        for (int role : NO_NUMBERS) {
            Check.due("does(0, " + role + ", 1)", x.does(0, role, 1), false);
        }
        Check.due("does(0, 2, 1), which the other play has", x.does(0, 2, 1), false);
        Check.due("does(0, 8, 1)", x.does(0, 8, 1), false);
        Check.due("does(0, 1, 1)", x.does(0, 1, 1), true);
        x.role(0, 0, 1, false);
        Check.due("a role that came later has not got it", x.does(0, 2, 1), true);
    }

    private static void doesWithoutKind() {
        PlayCompany x = plays(1, 1);
        for (int kind : NO_NUMBERS) {
            Check.due("does(0, 0, " + kind + ")", x.does(0, 0, kind), false);
        }
        Check.due("does(0, 0, 12)", x.does(0, 0, 12), false);
        Check.due("does(0, 0, 33)", x.does(0, 0, 33), false);
        Check.due("does(0, 0, 1)", x.does(0, 0, 1), true);
        Check.due("does(0, 0, 11)", x.does(0, 0, 11), true);
    }

    private static void doesAlready() {
        PlayCompany x = plays(1, 0);
        x.role(0, 6, 1, false);
        Check.due("its own kind", x.does(0, 0, 6), false);
        for (int kind = 0; kind < 12; kind++) {
            if (kind != 6) {
                Check.due("kind " + kind, x.does(0, 0, kind), true);
            }
        }
        for (int kind = 0; kind < 12; kind++) {
            Check.due("kind " + kind + " again", x.does(0, 0, kind), false);
        }
        x.actor(1, 0, 0, false);
        for (int kind = 0; kind < 12; kind++) {
            x.plays(0, kind, 1);
            Check.due("by kind " + kind, x.can(0, 0, 0), 1);
            x.plays(0, kind, 0);
        }
    }

    private static void doubleOfThatPlayAlone() {
        PlayCompany x = plays(2, 8);
        x.actor(1, 0, 0, false);
        x.plays(0, 0, 1);
        Check.due("doubles(1, 7, 0)", x.doubles(1, 7, 0), true);
        Check.due("fit(0)", x.fit(0), 1);
        Check.due("fit(1)", x.fit(1), 2);
        Check.due("hand(0)", x.hand(0), 0);
        Check.due("hand(7)", x.hand(7), 0);
    }

    private static void doublesWithoutRoles() {
        PlayCompany x = plays(2, 3);
        x.role(1, 0, 1, false);
        for (int number : NO_NUMBERS) {
            Check.due("doubles(" + number + ", 0, 1)", x.doubles(number, 0, 1), false);
            Check.due("doubles(0, " + number + ", 1)", x.doubles(0, number, 1), false);
            Check.due("doubles(0, 1, " + number + ")", x.doubles(0, 1, number), false);
        }
        Check.due("doubles(2, 0, 1)", x.doubles(2, 0, 1), false);
        Check.due("doubles(12, 0, 1)", x.doubles(12, 0, 1), false);
        Check.due("doubles(0, 2, 3), which the other play has", x.doubles(0, 2, 3), false);
        Check.due("doubles(0, 3, 2), which the other play has", x.doubles(0, 3, 2), false);
        Check.due("doubles(1, 3, 2)", x.doubles(1, 3, 2), true);
        Check.due("the refused ones are none of the 3", x.doubles(0, 0, 1), true);
        Check.due("the refused ones are none of the 3", x.doubles(0, 1, 2), true);
        Check.due("the refused ones are none of the 3", x.doubles(0, 0, 2), true);
    }

    private static void oneAndTheSame() {
        PlayCompany x = plays(1, 8);
        for (int role = 0; role < 8; role++) {
            Check.due("doubles(0, " + role + ", " + role + ")", x.doubles(0, role, role), false);
        }
        for (int role = 1; role < 4; role++) {
            Check.due("the refused ones are none of the 3", x.doubles(0, 0, role), true);
        }
    }

    private static void doubleAlready() {
        PlayCompany x = plays(1, 4);
        int[][] pairs = {{0, 1}, {3, 2}, {1, 2}};
        for (int[] pair : pairs) {
            Check.due("first", x.doubles(0, pair[0], pair[1]), true);
            Check.due("again", x.doubles(0, pair[0], pair[1]), false);
            Check.due("again, the other way", x.doubles(0, pair[1], pair[0]), false);
        }
        for (int[] pair : pairs) {
            Check.due("again behind all three", x.doubles(0, pair[1], pair[0]), false);
        }
    }

    private static void fourthDouble() {
        PlayCompany x = plays(2, 8);
        Check.due("first", x.doubles(0, 0, 1), true);
        Check.due("second", x.doubles(0, 2, 3), true);
        Check.due("third", x.doubles(0, 4, 5), true);
        Check.due("fourth", x.doubles(0, 6, 7), false);
        Check.due("another fourth", x.doubles(0, 0, 2), false);
        Check.due("of another play", x.doubles(1, 6, 7), true);
        for (int actor = 0; actor < 4; actor++) {
            x.actor(1, 0, 0, false);
            x.plays(actor, 0, 1);
        }
        Check.due("three have two roles, the last one", x.fit(0), 7);
        Check.dueHands(x, 0, 0, 1, 1, 2, 2, 3, -1);
    }
}
