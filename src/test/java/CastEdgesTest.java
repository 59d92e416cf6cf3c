/** The edges of promises 10 to 13 (fit, anew, hand, playable), a test for each sentence. */
public final class CastEdgesTest {
    private static final int[] NO_NUMBERS = {-1, -2, Integer.MIN_VALUE, Integer.MAX_VALUE, 32, 64, -32};

    public static void main(String[] args) {
        Check.sentence("1: to each ROLE one ACTOR who CAN it, or nobody", CastEdgesTest::nobodyWhereNobodyCan);
        Check.sentence("1: a PLAY without ROLES has a CAST", CastEdgesTest::noRoles);
        Check.sentence("1: nobody has more than one ROLE", CastEdgesTest::oneRoleEach);
        Check.sentence("1: or just the two of one DOUBLE: not three", CastEdgesTest::notThreeOfTwoDoubles);
        Check.sentence("1: or just the two of one DOUBLE: not one of each", CastEdgesTest::notOneOfEachDouble);
        Check.sentence("1: a DOUBLE for each of several ACTORS", CastEdgesTest::severalDoubles);
        Check.sentence("1: DOUBLE: two ROLES that one ACTOR may have, if they CAN both", CastEdgesTest::bothMustBeInReach);
        Check.sentence("1: DOUBLE: they may have them together, and need not", CastEdgesTest::doubleMaySplit);
        Check.sentence("1: each NEEDED ROLE has an ACTOR", CastEdgesTest::neededBeforeMost);
        Check.sentence("1: COMPARED: the lesser ACTOR is first", CastEdgesTest::lesserActorFirst);
        Check.sentence("1: COMPARED: nobody is behind all", CastEdgesTest::nobodyBehindAll);
        Check.sentence("1: COMPARED ROLE by ROLE, from 0 on", CastEdgesTest::roleByRole);
        Check.sentence("1: the CAST that is told has the most ROLES with an ACTOR", CastEdgesTest::mostBeforeFirst);
        Check.sentence("10: how many ROLES have an ACTOR", CastEdgesTest::howMany);
        Check.sentence("10: NONE: there is none (nothing changes)", CastEdgesTest::fitWithoutCast);
        Check.sentence("10: -2: no such PLAY", CastEdgesTest::fitWithoutPlay);
        Check.sentence("1: ANEW: by who is IN now", CastEdgesTest::anewByWhoIsIn);
        Check.sentence("1: ANEW: by who CAN now", CastEdgesTest::anewByWhoCan);
        Check.sentence("1: HANDS that change: ROLES that have another ACTOR, or nobody", CastEdgesTest::anotherOrNobody);
        Check.sentence("1: HANDS that change: a ROLE that had nobody is none", CastEdgesTest::hadNobody);
        Check.sentence("1: ANEW: the fewest HANDS that change, before the most ROLES", CastEdgesTest::fewestBeforeMost);
        Check.sentence("1: ANEW: of those the most ROLES, before the first", CastEdgesTest::thenMost);
        Check.sentence("1: ANEW: of those the first", CastEdgesTest::thenFirst);
        Check.sentence("1: ANEW: a DOUBLE's ROLES are two HANDS", CastEdgesTest::doubleIsTwoHands);
        Check.sentence("11: of all CASTS of its PLAY, with what it has now", CastEdgesTest::playHasMoreNow);
        Check.sentence("11: the CAST AT HAND is the one made ANEW", CastEdgesTest::anewUponAnew);
        Check.sentence("11: how many HANDS change: none to all 8", CastEdgesTest::allHandsChange);
        Check.sentence("11: NONE: there is no CAST of its PLAY now (it stays)", CastEdgesTest::anewWithoutCast);
        Check.sentence("11: -2: there is none AT HAND", CastEdgesTest::anewOfNone);
        Check.sentence("12: NONE: nobody", CastEdgesTest::handOfNobody);
        Check.sentence("12: NONE: no such ROLE", CastEdgesTest::handWithoutRole);
        Check.sentence("12: NONE: none AT HAND", CastEdgesTest::handOfNone);
        Check.sentence("12: the CAST AT HAND stays till it is made ANEW", CastEdgesTest::handStays);
        Check.sentence("13: bit i is 1 if PLAY i is", CastEdgesTest::playableBits);
        Check.sentence("13: playable now", CastEdgesTest::playableNow);
        Check.sentence("13: playable: there is a CAST", CastEdgesTest::playableByDoubles);
        Check.finish();
    }

    /** A play with some roles of kind 0, and actors who can all of them. */
    private static PlayCompany alike(int actors, int roles) {
        PlayCompany x = new PlayCompany();
        x.play(1, 0, 0, 0);
        for (int role = 0; role < roles; role++) {
            x.role(0, 0, 1, false);
        }
        for (int actor = 0; actor < actors; actor++) {
            x.actor(1, 0, 0, false);
            x.plays(actor, 0, 1);
        }
        return x;
    }

    /** A play whose role r is of kind r; of each actor the kinds are told that they play. */
    private static PlayCompany company(int roles, int[]... kinds) {
        PlayCompany x = new PlayCompany();
        x.play(1, 0, 0, 0);
        for (int role = 0; role < roles; role++) {
            x.role(0, role, 1, false);
        }
        for (int actor = 0; actor < kinds.length; actor++) {
            x.actor(1, 0, 0, false);
            for (int kind : kinds[actor]) {
                x.plays(actor, kind, 1);
            }
        }
        return x;
    }

    private static int[] of(int... kinds) {
        return kinds;
    }

    private static void dueFit(PlayCompany x, int filled, int... hands) {
        Check.due("fit(0)", x.fit(0), filled);
        Check.dueHands(x, hands);
    }

    private static void dueAnew(PlayCompany x, int changes, int... hands) {
        Check.due("anew()", x.anew(), changes);
        Check.dueHands(x, hands);
    }

    private static void nobodyWhereNobodyCan() {
        PlayCompany x = company(3, of(1));
        dueFit(x, 1, -1, 0, -1);
        x.comes(0, false);
        dueFit(x, 0, -1, -1, -1);
        Check.due("an empty cast is one, too", x.count(4), 0);
        PlayCompany y = company(2);
        dueFit(y, 0, -1, -1);
        Check.due("without any actor", y.count(4), 0);
    }

    private static void noRoles() {
        PlayCompany x = company(0, of(0));
        dueFit(x, 0, -1);
        Check.due("count(4)", x.count(4), 0);
        dueAnew(x, 0, -1);
        Check.due("playable()", x.playable(), 1);
    }

    private static void oneRoleEach() {
        PlayCompany x = alike(1, 8);
        dueFit(x, 1, 0, -1, -1, -1, -1, -1, -1, -1);
        Check.dueAbout(x, 0, 0, 6, 1);
    }

    private static void notThreeOfTwoDoubles() {
        PlayCompany x = alike(1, 3);
        x.doubles(0, 0, 1);
        x.doubles(0, 1, 2);
        dueFit(x, 2, 0, 0, -1);
        x.doubles(0, 0, 2);
        dueFit(x, 2, 0, 0, -1);
    }

    private static void notOneOfEachDouble() {
        PlayCompany x = company(4, of(0, 2));
        x.doubles(0, 0, 1);
        x.doubles(0, 2, 3);
        dueFit(x, 1, 0, -1, -1, -1);
        x.doubles(0, 0, 2);
        dueFit(x, 2, 0, -1, 0, -1);
    }

    private static void severalDoubles() {
        PlayCompany x = alike(3, 8);
        x.doubles(0, 0, 7);
        x.doubles(0, 1, 6);
        x.doubles(0, 2, 5);
        dueFit(x, 6, 0, 1, 2, -1, -1, 2, 1, 0);
    }

    private static void bothMustBeInReach() {
        PlayCompany x = company(2, of(0));
        x.doubles(0, 0, 1);
        dueFit(x, 1, 0, -1);
        x.plays(0, 1, 1);
        dueFit(x, 2, 0, 0);
        x.plays(0, 0, 0);
        dueFit(x, 1, -1, 0);
    }

    private static void doubleMaySplit() {
        PlayCompany x = company(3, of(0, 1), of(1), of(0, 2));
        x.doubles(0, 0, 1);
        dueFit(x, 3, 0, 0, 2);
        x.plays(0, 0, 0);
        x.plays(1, 0, 1);
        x.plays(1, 1, 0);
        dueFit(x, 3, 1, 0, 2);
    }

    private static void neededBeforeMost() {
        PlayCompany x = company(2, of(0, 1, 2));
        x.doubles(0, 0, 1);
        dueFit(x, 2, 0, 0);
        Check.due("a needed role", x.role(0, 2, 1, true), 2);
        dueFit(x, 1, -1, -1, 0);
        Check.due("and one more", x.role(0, 1, 1, true), 3);
        Check.due("fit(0)", x.fit(0), -1);
        Check.due("doubles(0, 2, 3)", x.doubles(0, 2, 3), true);
        dueFit(x, 2, -1, -1, 0, 0);
    }

    private static void lesserActorFirst() {
        PlayCompany x = alike(12, 1);
        for (int actor = 0; actor < 12; actor++) {
            dueFit(x, 1, actor);
            x.comes(actor, false);
        }
        dueFit(x, 0, -1);
    }

    private static void nobodyBehindAll() {
        PlayCompany x = alike(12, 2);
        for (int actor = 0; actor < 11; actor++) {
            x.comes(actor, false);
        }
        dueFit(x, 1, 11, -1);
    }

    private static void roleByRole() {
        PlayCompany x = company(3, of(1, 2), of(0, 1), of(0, 2));
        dueFit(x, 3, 1, 0, 2);
        PlayCompany y = company(2, of(0, 1), of(0, 1));
        dueFit(y, 2, 0, 1);
    }

    private static void mostBeforeFirst() {
        PlayCompany x = company(2, of(0, 1), of(0));
        dueFit(x, 2, 1, 0);
        x.comes(1, false);
        dueFit(x, 1, 0, -1);
        PlayCompany y = company(3, of(0, 1, 2));
        y.doubles(0, 1, 2);
        dueFit(y, 2, -1, 0, 0);
    }

    private static void howMany() {
        PlayCompany x = alike(0, 8);
        for (int actor = 0; actor < 12; actor++) {
            x.actor(1, 0, 0, false);
            x.plays(actor, 0, 1);
            Check.due("fit(0) of " + (actor + 1), x.fit(0), Math.min(8, actor + 1));
        }
        Check.dueHands(x, 0, 1, 2, 3, 4, 5, 6, 7, -1);
    }

    private static void fitWithoutCast() {
        PlayCompany x = company(1, of(0));
        x.play(1, 0, 0, 0);
        x.role(1, 0, 2, true);
        Check.due("fit(1)", x.fit(1), -1);
        Check.due("there is still none", x.count(4), -1);
        Check.due("there is still none", x.anew(), -2);
        dueFit(x, 1, 0);
        Check.due("fit(1)", x.fit(1), -1);
        Check.due("count(4)", x.count(4), 0);
        Check.dueHands(x, 0);
        x.role(0, 1, 1, true);
        Check.due("fit(0)", x.fit(0), -1);
        Check.due("count(4)", x.count(4), 0);
        Check.dueHands(x, 0, -1);
    }

    private static void fitWithoutPlay() {
        PlayCompany x = company(1, of(0));
        for (int play : NO_NUMBERS) {
            Check.due("fit(" + play + ")", x.fit(play), -2);
        }
        Check.due("fit(1)", x.fit(1), -2);
        Check.due("fit(12)", x.fit(12), -2);
        Check.due("count(4)", x.count(4), -1);
        dueFit(x, 1, 0);
        Check.due("fit(1)", x.fit(1), -2);
        Check.due("count(4)", x.count(4), 0);
        Check.dueHands(x, 0);
        PlayCompany y = new PlayCompany();
        for (int play = 0; play < 12; play++) {
            y.play(1, 0, 0, 0);
        }
        Check.due("fit(11)", y.fit(11), 0);
        Check.due("count(4)", y.count(4), 11);
        Check.due("fit(12)", y.fit(12), -2);
        Check.due("count(4)", y.count(4), 11);
    }

    private static void anewByWhoIsIn() {
        PlayCompany x = alike(3, 2);
        dueFit(x, 2, 0, 1);
        x.comes(0, false);
        dueAnew(x, 1, 2, 1);
        x.comes(0, true);
        dueAnew(x, 0, 2, 1);
    }

    private static void anewByWhoCan() {
        PlayCompany x = alike(3, 2);
        dueFit(x, 2, 0, 1);
        x.plays(1, 0, 0);
        dueAnew(x, 1, 0, 2);
        x.plays(1, 5, 9);
        x.comes(2, false);
        dueAnew(x, 1, 0, -1);
        x.does(0, 1, 5);
        dueAnew(x, 0, 0, 1);
    }

    private static void anotherOrNobody() {
        PlayCompany x = company(3, of(0), of(1), of(2), of(0));
        dueFit(x, 3, 0, 1, 2);
        x.comes(0, false);
        dueAnew(x, 1, 3, 1, 2);
        x.comes(1, false);
        dueAnew(x, 1, 3, -1, 2);
        x.comes(3, false);
        x.comes(2, false);
        dueAnew(x, 2, -1, -1, -1);
        dueAnew(x, 0, -1, -1, -1);
        x.comes(2, true);
        dueAnew(x, 0, -1, -1, 2);
    }

    private static void hadNobody() {
        PlayCompany x = alike(3, 3);
        x.comes(1, false);
        x.comes(2, false);
        dueFit(x, 1, 0, -1, -1);
        x.comes(1, true);
        dueAnew(x, 0, 0, 1, -1);
        x.comes(2, true);
        dueAnew(x, 0, 0, 1, 2);
    }

    private static void fewestBeforeMost() {
        PlayCompany x = company(2, of(0, 1), of(0));
        x.comes(1, false);
        dueFit(x, 1, 0, -1);
        x.comes(1, true);
        dueAnew(x, 0, 0, -1);
        dueFit(x, 2, 1, 0);
        PlayCompany y = alike(2, 3);
        dueFit(y, 2, 0, 1, -1);
        y.comes(0, false);
        dueAnew(y, 1, -1, 1, -1);
    }

    private static void thenMost() {
        PlayCompany x = company(3, of(0), of(1, 2), of(1));
        x.comes(1, false);
        x.comes(2, false);
        dueFit(x, 1, 0, -1, -1);
        x.comes(1, true);
        x.comes(2, true);
        dueAnew(x, 0, 0, 2, 1);
    }

    private static void thenFirst() {
        PlayCompany x = alike(5, 3);
        x.comes(0, false);
        x.comes(1, false);
        x.comes(2, false);
        dueFit(x, 2, 3, 4, -1);
        x.comes(2, true);
        x.comes(1, true);
        x.comes(0, true);
        dueAnew(x, 0, 3, 4, 0);
        x.comes(3, false);
        dueAnew(x, 1, 1, 4, 0);
        x.comes(1, false);
        x.comes(4, false);
        x.comes(3, true);
        dueAnew(x, 2, 2, 3, 0);
    }

    private static void doubleIsTwoHands() {
        PlayCompany x = alike(3, 2);
        x.doubles(0, 1, 0);
        dueFit(x, 2, 0, 0);
        x.comes(0, false);
        dueAnew(x, 2, 1, 1);
        x.comes(0, true);
        dueAnew(x, 0, 1, 1);
        x.role(0, 11, 1, true);
        x.plays(1, 11, 1);
        dueAnew(x, 2, 0, 0, 1);
    }

    private static void playHasMoreNow() {
        PlayCompany x = alike(2, 1);
        dueFit(x, 1, 0);
        x.role(0, 0, 1, true);
        Check.due("the new role has nobody yet", x.hand(1), -1);
        dueAnew(x, 0, 0, 1);
        x.role(0, 0, 1, true);
        dueAnew(x, 1, -1, 1, 0);
        x.doubles(0, 0, 2);
        dueAnew(x, 0, 0, 1, 0);
        x.play(1, 0, 0, 0);
        x.role(1, 0, 1, true);
        dueAnew(x, 0, 0, 1, 0);
        Check.due("of its own play", x.count(4), 0);
    }

    private static void anewUponAnew() {
        PlayCompany x = alike(3, 1);
        dueFit(x, 1, 0);
        x.comes(0, false);
        dueAnew(x, 1, 1);
        x.comes(0, true);
        dueAnew(x, 0, 1);
        x.comes(1, false);
        dueAnew(x, 1, 0);
        dueFit(x, 1, 0);
    }

    private static void allHandsChange() {
        PlayCompany x = alike(12, 8);
        for (int actor = 8; actor < 12; actor++) {
            x.comes(actor, false);
        }
        dueFit(x, 8, 0, 1, 2, 3, 4, 5, 6, 7);
        dueAnew(x, 0, 0, 1, 2, 3, 4, 5, 6, 7);
        for (int actor = 0; actor < 12; actor++) {
            x.comes(actor, actor >= 8);
        }
        dueAnew(x, 8, 8, 9, 10, 11, -1, -1, -1, -1);
        for (int actor = 0; actor < 12; actor++) {
            x.comes(actor, false);
        }
        dueAnew(x, 4, -1, -1, -1, -1, -1, -1, -1, -1);
    }

    private static void anewWithoutCast() {
        PlayCompany x = alike(2, 1);
        x.role(0, 0, 1, true);
        dueFit(x, 2, 0, 1);
        x.comes(0, false);
        x.comes(1, false);
        dueAnew(x, -1, 0, 1);
        Check.due("count(4)", x.count(4), 0);
        Check.dueAbout(x, 0, 0, 6, 1);
        x.comes(1, true);
        dueAnew(x, 1, -1, 1);
        x.comes(1, false);
        dueAnew(x, -1, -1, 1);
        x.comes(0, true);
        dueAnew(x, 1, -1, 0);
    }

    private static void anewOfNone() {
        PlayCompany x = new PlayCompany();
        Check.due("anew()", x.anew(), -2);
        PlayCompany y = alike(1, 1);
        Check.due("anew() with a play and who can", y.anew(), -2);
        y.week(1);
        Check.due("anew() with a week", y.anew(), -2);
        Check.due("fit(1)", y.fit(1), -2);
        Check.due("anew() behind a refused fit", y.anew(), -2);
        Check.due("count(4)", y.count(4), -1);
    }

    private static void handOfNobody() {
        PlayCompany x = company(3, of(1));
        dueFit(x, 1, -1, 0, -1);
    }

    private static void handWithoutRole() {
        PlayCompany x = alike(8, 8);
        x.play(1, 0, 0, 0);
        x.role(1, 0, 1, false);
        dueFit(x, 8, 0, 1, 2, 3, 4, 5, 6, 7, -1);
        for (int role : NO_NUMBERS) {
            Check.due("hand(" + role + ")", x.hand(role), -1);
        }
        Check.due("hand(9)", x.hand(9), -1);
        Check.due("hand(15)", x.hand(15), -1);
        Check.due("fit(1)", x.fit(1), 1);
        Check.dueHands(x, 0, -1, -1, -1, -1, -1, -1, -1, -1);
    }

    private static void handOfNone() {
        PlayCompany x = alike(8, 8);
        for (int role = -1; role < 9; role++) {
            Check.due("hand(" + role + ")", x.hand(role), -1);
        }
    }

    private static void handStays() {
        PlayCompany x = alike(2, 2);
        dueFit(x, 2, 0, 1);
        x.comes(0, false);
        x.plays(1, 0, 0);
        x.actor(1, 0, 0, false);
        x.role(0, 0, 9, true);
        x.play(1, 0, 0, 0);
        x.week(3);
        x.playable();
        x.fill(1000);
        x.can(0, 0, 0);
        Check.dueHands(x, 0, 1, -1);
        Check.due("count(4)", x.count(4), 0);
        Check.dueAbout(x, 0, 0, 6, 1);
    }

    private static void playableBits() {
        PlayCompany x = alike(0, 0);
        for (int play = 1; play < 12; play++) {
            x.play(1, 0, 0, 0);
        }
        Check.due("all twelve", x.playable(), 0xFFF);
        for (int play = 0; play < 12; play++) {
            x.role(play, play, 1, true);
        }
        Check.due("none", x.playable(), 0);
        x.actor(1, 0, 0, false);
        for (int play = 0; play < 12; play++) {
            x.plays(0, play, 1);
            Check.due("play " + play + " alone", x.playable(), 1 << play);
            x.plays(0, play, 0);
        }
    }

    private static void playableNow() {
        PlayCompany x = alike(1, 0);
        Check.due("without roles", x.playable(), 1);
        x.role(0, 5, 9, false);
        Check.due("a role that is not needed", x.playable(), 1);
        x.role(0, 0, 1, true);
        Check.due("a needed one", x.playable(), 1);
        x.comes(0, false);
        Check.due("nobody is in", x.playable(), 0);
        x.comes(0, true);
        Check.due("in again", x.playable(), 1);
        x.plays(0, 0, 0);
        Check.due("can't any more", x.playable(), 0);
    }

    private static void playableByDoubles() {
        PlayCompany x = alike(3, 0);
        for (int role = 0; role < 4; role++) {
            x.role(0, 0, 1, true);
        }
        Check.due("four for three", x.playable(), 0);
        x.role(0, 0, 1, false);
        x.doubles(0, 0, 4);
        Check.due("a double of which one is not needed does not help", x.playable(), 0);
        Check.due("fit(0)", x.fit(0), -1);
        x.doubles(0, 3, 1);
        Check.due("a double of two that are needed", x.playable(), 1);
        dueFit(x, 5, 0, 1, 2, 1, 0);
        x.comes(2, false);
        Check.due("four for two, and one double of needed ones", x.playable(), 0);
        x.doubles(0, 0, 2);
        Check.due("two doubles of needed ones", x.playable(), 1);
        dueFit(x, 4, 0, 1, 0, 1, -1);
    }
}
