/** The edges of promises 2 to 4 and 9 (actor, plays, comes, can), a test for each sentence. */
public final class ActorsEdgesTest {
    private static final int[] NO_NUMBERS = {-1, -2, Integer.MIN_VALUE, Integer.MAX_VALUE, 32, 64, -32};

    public static void main(String[] args) {
        Check.sentence("1: ACTORS are numbered from 0 on", ActorsEdgesTest::numbersFromZeroOn);
        Check.sentence("2: NONE: there are 12", ActorsEdgesTest::thirteenthActor);
        Check.sentence("1: a FEE (1 to 100)", ActorsEdgesTest::fee);
        Check.sentence("1: a day of BIRTH (-100000 to 100000)", ActorsEdgesTest::birth);
        Check.sentence("1: one when they JOINED (-100000 to 100000)", ActorsEdgesTest::joined);
        Check.sentence("2: numbers are not as told: no number is used up", ActorsEdgesTest::refusedTakesNoNumber);
        Check.sentence("1: GUEST or not", ActorsEdgesTest::guest);
        Check.sentence("1: IN or not (at first they are)", ActorsEdgesTest::inAtFirst);
        Check.sentence("1: of each KIND a GRADE (0 at first)", ActorsEdgesTest::gradeZeroAtFirst);
        Check.sentence("3: a GRADE of an ACTOR", ActorsEdgesTest::gradeIsThatActorsAndKinds);
        Check.sentence("3: a GRADE takes the place of the former", ActorsEdgesTest::gradeIsReplaced);
        Check.sentence("3: a GRADE of an ACTOR who is not IN", ActorsEdgesTest::gradeOfOneWhoIsAway);
        Check.sentence("3: False: no such ACTOR", ActorsEdgesTest::playsWithoutActor);
        Check.sentence("3: False: no such KIND", ActorsEdgesTest::playsWithoutKind);
        Check.sentence("3: False: no such GRADE", ActorsEdgesTest::playsWithoutGrade);
        Check.sentence("4: an ACTOR is IN, or not", ActorsEdgesTest::comesAndGoes);
        Check.sentence("4: False: no such one", ActorsEdgesTest::comesWithoutActor);
        Check.sentence("1: CAN: IN", ActorsEdgesTest::canOnlyIn);
        Check.sentence("1: CAN: the GRADE is that of the ROLE at least", ActorsEdgesTest::canByGrade);
        Check.sentence("1: CAN: of its KIND, or one that does", ActorsEdgesTest::canByKind);
        Check.sentence("9: NONE: no such ACTOR", ActorsEdgesTest::canWithoutActor);
        Check.sentence("9: NONE: no such PLAY", ActorsEdgesTest::canWithoutPlay);
        Check.sentence("9: NONE: no such ROLE", ActorsEdgesTest::canWithoutRole);
        Check.finish();
    }

    /** Some actors and a play whose role r is of kind r and grade 1. */
    private static PlayCompany company(int actors, int roles) {
        PlayCompany x = new PlayCompany();
        for (int i = 0; i < actors; i++) {
            x.actor(1, 0, 0, false);
        }
        x.play(1, 0, 0, 0);
        for (int i = 0; i < roles; i++) {
            x.role(0, i, 1, false);
        }
        return x;
    }

    private static void numbersFromZeroOn() {
        PlayCompany x = new PlayCompany();
        for (int number = 0; number < 12; number++) {
            Check.due("count(0)", x.count(0), number);
            Check.due("actor(..)", x.actor(number + 1, 0, 0, false), number);
        }
        for (int number = 0; number < 12; number++) {
            Check.dueAbout(x, number, 0, 2, number + 1);
        }
    }

    private static void thirteenthActor() {
        PlayCompany x = company(12, 1);
        Check.due("a 13th", x.actor(50, 5, 5, true), -1);
        Check.due("once more", x.actor(100, 0, 0, false), -1);
        Check.due("count(0)", x.count(0), 12);
        Check.due("count(7)", x.count(7), 12);
        Check.dueNoAbout(x, 12, 0, 0);
        for (int actor = 0; actor < 12; actor++) {
            Check.dueAbout(x, actor, 0, 2, 1);
            Check.dueAbout(x, actor, 0, 4, 0);
        }
        Check.due("the twelfth plays", x.plays(11, 0, 1), true);
        Check.due("the twelfth can", x.can(11, 0, 0), 1);
        Check.due("fit(0)", x.fit(0), 1);
        Check.due("hand(0)", x.hand(0), 11);
    }

    private static void fee() {
        PlayCompany x = new PlayCompany();
        for (int fee : new int[] {0, 101, -1, -50, 256 + 1, Integer.MIN_VALUE, Integer.MAX_VALUE}) {
            Check.due("actor(" + fee + ", ..)", x.actor(fee, 0, 0, false), -1);
        }
        Check.due("count(0)", x.count(0), 0);
        Check.due("fee 1", x.actor(1, 0, 0, false), 0);
        Check.due("fee 100", x.actor(100, 0, 0, false), 1);
        Check.due("fee 2", x.actor(2, 0, 0, false), 2);
        Check.due("fee 99", x.actor(99, 0, 0, false), 3);
        int[] fees = {1, 100, 2, 99};
        for (int actor = 0; actor < fees.length; actor++) {
            Check.dueAbout(x, actor, 0, 2, fees[actor]);
        }
    }

    private static void birth() {
        PlayCompany x = new PlayCompany();
        for (int birth : new int[] {-100001, 100001, Integer.MIN_VALUE, Integer.MAX_VALUE}) {
            Check.due("actor(1, " + birth + ", ..)", x.actor(1, birth, 0, false), -1);
        }
        Check.due("count(0)", x.count(0), 0);
        Check.due("birth -100000", x.actor(1, -100000, 0, false), 0);
        Check.due("birth 100000", x.actor(1, 100000, 0, false), 1);
        Check.dueAbout(x, 0, -100001, 0, -1);
        Check.dueAbout(x, 0, -100000, 0, 0);
        Check.dueAbout(x, 0, 100000, 0, 547);
        Check.dueAbout(x, 1, 99999, 0, -1);
        Check.dueAbout(x, 1, 100000, 0, 0);
        Check.dueAbout(x, 1, -100000, 0, -548);
    }

    private static void joined() {
        PlayCompany x = new PlayCompany();
        for (int joined : new int[] {-100001, 100001, Integer.MIN_VALUE, Integer.MAX_VALUE}) {
            Check.due("actor(1, 0, " + joined + ", ..)", x.actor(1, 0, joined, false), -1);
        }
        Check.due("count(0)", x.count(0), 0);
        Check.due("joined -100000, before the birth", x.actor(1, 0, -100000, false), 0);
        Check.due("joined 100000", x.actor(1, 0, 100000, false), 1);
        Check.dueAbout(x, 0, -100001, 1, -1);
        Check.dueAbout(x, 0, -100000, 1, 0);
        Check.dueAbout(x, 1, 99999, 1, -1);
        Check.dueAbout(x, 1, 100000, 1, 0);
        Check.dueAbout(x, 1, 0, 0, 0);
    }

    private static void refusedTakesNoNumber() {
        PlayCompany x = new PlayCompany();
        Check.due("actor", x.actor(5, 0, 0, false), 0);
        Check.due("refused", x.actor(0, 0, 0, true), -1);
        Check.due("refused", x.actor(5, 100001, 0, true), -1);
        Check.due("refused", x.actor(5, 0, -100001, true), -1);
        Check.due("count(0)", x.count(0), 1);
        Check.due("count(7)", x.count(7), 1);
        Check.dueNoAbout(x, 1, 0, 2);
        Check.due("the next", x.actor(6, 0, 0, true), 1);
        Check.dueAbout(x, 0, 0, 2, 5);
        Check.dueAbout(x, 0, 0, 4, 0);
        Check.dueAbout(x, 1, 0, 2, 6);
    }

    private static void guest() {
        PlayCompany x = new PlayCompany();
        x.actor(1, 0, 0, true);
        x.actor(1, 0, 0, false);
        x.actor(1, 0, 0, true);
        Check.dueAbout(x, 0, 0, 4, 1);
        Check.dueAbout(x, 1, 0, 4, 0);
        Check.dueAbout(x, 2, 0, 4, 1);
    }

    private static void inAtFirst() {
        PlayCompany x = new PlayCompany();
        for (int actor = 0; actor < 12; actor++) {
            x.actor(1, 0, 0, actor % 2 == 0);
            Check.dueAbout(x, actor, 0, 5, 1);
            Check.due("count(7)", x.count(7), actor + 1);
        }
    }

    private static void gradeZeroAtFirst() {
        PlayCompany x = company(1, 0);
        x.play(1, 0, 0, 0);
        for (int kind = 0; kind < 12; kind++) {
            int play = kind < 8 ? 0 : 1;
            int role = x.role(play, kind, 1, true);
            Check.due("can a role of kind " + kind, x.can(0, play, role), 0);
        }
        Check.dueAbout(x, 0, 0, 3, 0);
    }

    private static void gradeIsThatActorsAndKinds() {
        PlayCompany x = company(2, 3);
        Check.due("plays(0, 1, 1)", x.plays(0, 1, 1), true);
        int[][] can = {{0, 1, 0}, {0, 0, 0}};
        for (int actor = 0; actor < 2; actor++) {
            for (int role = 0; role < 3; role++) {
                Check.due("can(" + actor + ", 0, " + role + ")", x.can(actor, 0, role), can[actor][role]);
            }
        }
    }

    private static void gradeIsReplaced() {
        PlayCompany x = company(1, 1);
        int[] grades = {9, 4, 4, 5, 0, 1, 0};
        for (int grade : grades) {
            Check.due("plays(0, 0, " + grade + ")", x.plays(0, 0, grade), true);
            Check.dueAbout(x, 0, 0, 3, grade);
            Check.due("can with grade " + grade, x.can(0, 0, 0), grade > 0 ? 1 : 0);
        }
    }

    private static void gradeOfOneWhoIsAway() {
        PlayCompany x = company(1, 1);
        x.comes(0, false);
        Check.due("plays(0, 0, 5)", x.plays(0, 0, 5), true);
        Check.dueAbout(x, 0, 0, 3, 5);
        Check.due("away", x.can(0, 0, 0), 0);
        x.comes(0, true);
        Check.due("in", x.can(0, 0, 0), 1);
    }

    private static void playsWithoutActor() {
        PlayCompany x = company(2, 1);
        for (int actor : NO_NUMBERS) {
            Check.due("plays(" + actor + ", 0, 1)", x.plays(actor, 0, 1), false);
        }
        Check.due("plays(2, 0, 1)", x.plays(2, 0, 1), false);
        Check.due("plays(11, 0, 1)", x.plays(11, 0, 1), false);
        Check.due("plays(12, 0, 1)", x.plays(12, 0, 1), false);
        Check.due("the last there is", x.plays(1, 0, 1), true);
        Check.due("the first has none", x.can(0, 0, 0), 0);
        PlayCompany full = company(12, 1);
        Check.due("plays(12, ..) with 12", full.plays(12, 0, 1), false);
        Check.due("plays(11, ..) with 12", full.plays(11, 0, 1), true);
    }

    private static void playsWithoutKind() {
        PlayCompany x = company(1, 8);
        for (int kind : NO_NUMBERS) {
            Check.due("plays(0, " + kind + ", 9)", x.plays(0, kind, 9), false);
        }
        Check.due("plays(0, 12, 9)", x.plays(0, 12, 9), false);
        Check.due("plays(0, 12 + 32, 9)", x.plays(0, 44, 9), false);
        Check.dueAbout(x, 0, 0, 3, 0);
        Check.due("plays(0, 0, 2)", x.plays(0, 0, 2), true);
        Check.dueAbout(x, 0, 0, 3, 2);
        Check.due("plays(0, 11, 3)", x.plays(0, 11, 3), true);
        Check.dueAbout(x, 0, 0, 3, 3);
    }

    private static void playsWithoutGrade() {
        PlayCompany x = company(1, 1);
        x.plays(0, 0, 6);
        for (int grade : new int[] {-1, 10, 16, Integer.MIN_VALUE, Integer.MAX_VALUE}) {
            Check.due("plays(0, 0, " + grade + ")", x.plays(0, 0, grade), false);
            Check.dueAbout(x, 0, 0, 3, 6);
        }
        Check.due("plays(0, 0, 9)", x.plays(0, 0, 9), true);
        Check.dueAbout(x, 0, 0, 3, 9);
        Check.due("plays(0, 0, 0)", x.plays(0, 0, 0), true);
        Check.dueAbout(x, 0, 0, 3, 0);
    }

    private static void comesAndGoes() {
        PlayCompany x = company(3, 0);
        Check.due("who is in comes", x.comes(1, true), true);
        Check.due("count(7)", x.count(7), 3);
        Check.due("goes", x.comes(1, false), true);
        Check.due("goes, and is away", x.comes(1, false), true);
        Check.due("count(7)", x.count(7), 2);
        Check.dueAbout(x, 0, 0, 5, 1);
        Check.dueAbout(x, 1, 0, 5, 0);
        Check.dueAbout(x, 2, 0, 5, 1);
        Check.due("the first goes", x.comes(0, false), true);
        Check.due("the last goes", x.comes(2, false), true);
        Check.due("count(7)", x.count(7), 0);
        Check.due("count(0)", x.count(0), 3);
        Check.due("comes again", x.comes(2, true), true);
        Check.due("count(7)", x.count(7), 1);
        Check.dueAbout(x, 2, 0, 5, 1);
    }

    private static void comesWithoutActor() {
        PlayCompany x = company(2, 0);
        for (int actor : NO_NUMBERS) {
            Check.due("comes(" + actor + ", false)", x.comes(actor, false), false);
            Check.due("comes(" + actor + ", true)", x.comes(actor, true), false);
        }
        Check.due("comes(2, false)", x.comes(2, false), false);
        Check.due("comes(12, false)", x.comes(12, false), false);
        Check.due("count(7)", x.count(7), 2);
        x.actor(1, 0, 0, false);
        Check.dueAbout(x, 2, 0, 5, 1);
    }

    private static void canOnlyIn() {
        PlayCompany x = company(2, 1);
        x.plays(0, 0, 9);
        x.plays(1, 0, 9);
        x.comes(0, false);
        Check.due("away", x.can(0, 0, 0), 0);
        Check.due("another is not", x.can(1, 0, 0), 1);
        x.comes(0, true);
        Check.due("back", x.can(0, 0, 0), 1);
    }

    private static void canByGrade() {
        PlayCompany x = company(1, 0);
        x.role(0, 0, 1, false);
        x.role(0, 0, 5, false);
        x.role(0, 0, 9, false);
        int[] least = {1, 5, 9};
        for (int grade = 0; grade <= 9; grade++) {
            x.plays(0, 0, grade);
            for (int role = 0; role < 3; role++) {
                Check.due("grade " + grade + " for " + least[role], x.can(0, 0, role), grade >= least[role] ? 1 : 0);
            }
        }
    }

    private static void canByKind() {
        PlayCompany x = company(1, 0);
        x.role(0, 0, 5, false);
        x.role(0, 11, 5, false);
        x.plays(0, 11, 9);
        Check.due("another kind", x.can(0, 0, 0), 0);
        Check.due("its kind", x.can(0, 0, 1), 1);
        x.does(0, 0, 11);
        Check.due("one that does", x.can(0, 0, 0), 1);
        x.plays(0, 11, 5);
        Check.due("one that does, just the grade", x.can(0, 0, 0), 1);
        x.plays(0, 11, 4);
        Check.due("one that does, a grade below", x.can(0, 0, 0), 0);
        x.plays(0, 0, 4);
        Check.due("both below, which together would be above", x.can(0, 0, 0), 0);
        x.plays(0, 0, 5);
        Check.due("its own kind still does", x.can(0, 0, 0), 1);
        Check.due("not the other way round", x.can(0, 0, 1), 0);
    }

    private static void canWithoutActor() {
        PlayCompany x = company(2, 1);
        x.plays(0, 0, 1);
        for (int actor : NO_NUMBERS) {
            Check.due("can(" + actor + ", 0, 0)", x.can(actor, 0, 0), -1);
        }
        Check.due("can(2, 0, 0)", x.can(2, 0, 0), -1);
        Check.due("can(12, 0, 0)", x.can(12, 0, 0), -1);
        Check.due("can(1, 0, 0)", x.can(1, 0, 0), 0);
    }

    private static void canWithoutPlay() {
        PlayCompany x = company(1, 1);
        x.plays(0, 0, 1);
        for (int play : NO_NUMBERS) {
            Check.due("can(0, " + play + ", 0)", x.can(0, play, 0), -1);
        }
        Check.due("can(0, 1, 0)", x.can(0, 1, 0), -1);
        Check.due("can(0, 12, 0)", x.can(0, 12, 0), -1);
        Check.due("can(0, 0, 0)", x.can(0, 0, 0), 1);
    }

    private static void canWithoutRole() {
        PlayCompany x = company(1, 8);
        x.play(1, 0, 0, 0);
        x.plays(0, 0, 1);
        x.plays(0, 7, 1);
        for (int role : NO_NUMBERS) {
            Check.due("can(0, 0, " + role + ")", x.can(0, 0, role), -1);
        }
        Check.due("can(0, 0, 8)", x.can(0, 0, 8), -1);
        Check.due("can(0, 0, 7)", x.can(0, 0, 7), 1);
        Check.due("a role of another play alone", x.can(0, 1, 0), -1);
        x.comes(0, false);
        Check.due("can(0, 0, 8) of one who is away", x.can(0, 0, 8), -1);
    }
}
