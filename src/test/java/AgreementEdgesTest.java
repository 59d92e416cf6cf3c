/** The edges of promises 23 to 26 (may, broken, about, count) and of what terms say, a test for each sentence. */
public final class AgreementEdgesTest {
    private static final int[] NO_NUMBERS = {-1, -2, Integer.MIN_VALUE, Integer.MAX_VALUE, 32, 64, -32};

    public static void main(String[] args) {
        Check.sentence("4: age: days since BIRTH, divided by 365 and cut downwards", AgreementEdgesTest::age);
        Check.sentence("4: years: likewise since JOINED", AgreementEdgesTest::years);
        Check.sentence("4: age and years on days that no FACT may have", AgreementEdgesTest::farDays);
        Check.sentence("4: fee: FEE", AgreementEdgesTest::fee);
        Check.sentence("4: grade: the greatest GRADE", AgreementEdgesTest::grade);
        Check.sentence("4: roles: how many ROLES of the CAST AT HAND they have", AgreementEdgesTest::roles);
        Check.sentence("4: roles, of 12 ACTORS, by how many have one", AgreementEdgesTest::rolesOfTwelve);
        Check.sentence("4: guest: whether they are one", AgreementEdgesTest::guest);
        Check.sentence("4: WHAT < NUMBER, WHAT >= NUMBER", AgreementEdgesTest::comparisons);
        Check.sentence("4: WHAT: age | years | fee | grade | roles", AgreementEdgesTest::eachItsOwn);
        Check.sentence("4: a NUMBER's digits", AgreementEdgesTest::digits);
        Check.sentence("4: not F", AgreementEdgesTest::nots);
        Check.sentence("4: E: T { or T }, T: F { and F }", AgreementEdgesTest::orAndAnd);
        Check.sentence("4: ( E ), up to 8 deep", AgreementEdgesTest::deep);
        Check.sentence("4: PAY: all NUMBERS of pay-TERMS together whose E holds", AgreementEdgesTest::pay);
        Check.sentence("4: an ACTOR MAY if E of each may-TERM holds", AgreementEdgesTest::may);
        Check.sentence("23: NONE: no such one", AgreementEdgesTest::mayWithoutActor);
        Check.sentence("4: keeps may: each ACTOR in it MAY by this one", AgreementEdgesTest::keepsMay);
        Check.sentence("4: keeps most: at most so many", AgreementEdgesTest::keepsMost);
        Check.sentence("4: keeps least: at least so many", AgreementEdgesTest::keepsLeast);
        Check.sentence("4: each counted once", AgreementEdgesTest::countedOnce);
        Check.sentence("4: keeps pay: always", AgreementEdgesTest::keepsPay);
        Check.sentence("4: ACTORS in it alone", AgreementEdgesTest::actorsInIt);
        Check.sentence("4: a CAST AT HAND without ACTORS", AgreementEdgesTest::emptyCast);
        Check.sentence("24: the first TERM, from 0 on", AgreementEdgesTest::firstBroken);
        Check.sentence("24: NONE: it keeps all", AgreementEdgesTest::keepsAll);
        Check.sentence("24: -2: there is none AT HAND", AgreementEdgesTest::brokenOfNone);
        Check.sentence("25: what 0 to 7", AgreementEdgesTest::whats);
        Check.sentence("25: NoSuchElementException: no such ACTOR", AgreementEdgesTest::aboutWithoutActor);
        Check.sentence("25: NoSuchElementException: another what", AgreementEdgesTest::anotherWhat);
        Check.sentence("26: what 0 to 7", AgreementEdgesTest::counts);
        Check.sentence("26: 4 the PLAY of the CAST AT HAND (NONE without)", AgreementEdgesTest::countOfTheCast);
        Check.sentence("26: NONE for another what", AgreementEdgesTest::countOfAnother);
        Check.finish();
    }

    /** One actor, not a guest, of fee 10, born and joined on day 0. */
    private static PlayCompany one() {
        PlayCompany x = new PlayCompany();
        x.actor(10, 0, 0, false);
        return x;
    }

    /** A cast of three actors of fees 1 to 3, of whom the last is a guest and has two roles; and one of fee 4 who has none. */
    private static PlayCompany cast() {
        PlayCompany x = new PlayCompany();
        x.play(1, 0, 0, 0);
        for (int role = 0; role < 4; role++) {
            x.role(0, role, 1, false);
        }
        x.doubles(0, 2, 3);
        for (int actor = 0; actor < 4; actor++) {
            x.actor(actor + 1, 0, 0, actor == 2);
        }
        for (int kind = 0; kind < 4; kind++) {
            x.plays(Math.min(kind, 2), kind, 1);
        }
        Check.due("fit(0)", x.fit(0), 4);
        Check.dueHands(x, 0, 1, 2, 2);
        return x;
    }

    private static void dueMay(PlayCompany x, String condition, int day, int want) {
        Check.dueTerms(x, "may if " + condition + ";", 0);
        Check.due("may(0, " + day + ") if " + condition, x.may(0, day), want);
    }

    private static void dueBroken(PlayCompany x, String text, int want) {
        Check.dueTerms(x, text, 0);
        Check.due("broken(0) of " + text, x.broken(0), want);
    }

    private static void age() {
        PlayCompany x = new PlayCompany();
        x.actor(1, 100, 0, false);
        int[][] due = {{100, 0}, {101, 0}, {464, 0}, {465, 1}, {829, 1}, {830, 2}, {99, -1}, {0, -1}, {-265, -1}, {-266, -2},
            {-630, -2}, {-631, -3}};
        for (int[] day : due) {
            Check.dueAbout(x, 0, day[0], 0, day[1]);
        }
    }

    private static void years() {
        PlayCompany x = new PlayCompany();
        x.actor(1, 0, -50, false);
        int[][] due = {{-50, 0}, {314, 0}, {315, 1}, {679, 1}, {680, 2}, {-51, -1}, {-415, -1}, {-416, -2}};
        for (int[] day : due) {
            Check.dueAbout(x, 0, day[0], 1, day[1]);
        }
        Check.dueAbout(x, 0, 364, 0, 0);
        Check.dueAbout(x, 0, 364, 1, 1);
    }

    private static void farDays() {
        PlayCompany x = new PlayCompany();
        x.actor(1, -100000, 100000, false);
        long[] days = {Integer.MAX_VALUE, Integer.MIN_VALUE, 100001, -100001};
        for (long day : days) {
            Check.dueAbout(x, 0, (int) day, 0, (int) Math.floorDiv(day + 100000, 365L));
            Check.dueAbout(x, 0, (int) day, 1, (int) Math.floorDiv(day - 100000, 365L));
        }
        Check.dueTerms(x, "may if age >= 999999 and years >= 999999;", 0);
        Check.due("may on the greatest day", x.may(0, Integer.MAX_VALUE), 1);
        Check.due("may on the least day", x.may(0, Integer.MIN_VALUE), 0);
    }

    private static void fee() {
        PlayCompany x = new PlayCompany();
        x.actor(1, 0, 0, false);
        x.actor(100, 0, 0, false);
        Check.dueAbout(x, 0, 0, 2, 1);
        Check.dueAbout(x, 1, 0, 2, 100);
        Check.dueTerms(x, "may if fee >= 100;", 0);
        Check.due("may(0, 0)", x.may(0, 0), 0);
        Check.due("may(1, 0)", x.may(1, 0), 1);
    }

    private static void grade() {
        PlayCompany x = one();
        Check.dueAbout(x, 0, 0, 3, 0);
        for (int kind = 0; kind < 12; kind++) {
            x.plays(0, kind, 9);
            Check.dueAbout(x, 0, 0, 3, 9);
            x.plays(0, kind, 0);
            Check.dueAbout(x, 0, 0, 3, 0);
        }
        x.plays(0, 3, 4);
        x.plays(0, 4, 6);
        x.plays(0, 5, 5);
        Check.dueAbout(x, 0, 0, 3, 6);
        x.comes(0, false);
        Check.dueAbout(x, 0, 0, 3, 6);
    }

    private static void roles() {
        PlayCompany x = cast();
        int[] due = {1, 1, 2, 0};
        for (int actor = 0; actor < 4; actor++) {
            Check.dueAbout(x, actor, 0, 6, due[actor]);
        }
        x.comes(2, false);
        Check.dueAbout(x, 2, 0, 6, 2);
        x.anew();
        Check.dueAbout(x, 2, 0, 6, 0);
        x.play(1, 0, 0, 0);
        x.fit(1);
        for (int actor = 0; actor < 4; actor++) {
            Check.dueAbout(x, actor, 0, 6, 0);
        }
        Check.dueAbout(one(), 0, 0, 6, 0);
    }

    /** A cast's size must not be taken for an actor's role, so each size is asked of all twelve. */
    private static void rolesOfTwelve() {
        PlayCompany x = new PlayCompany();
        x.play(1, 0, 0, 0);
        for (int actor = 0; actor < 12; actor++) {
            x.actor(1, 0, 0, false);
            x.plays(actor, 0, 1);
        }
        Check.dueTerms(x, "pay 1 if roles>=1;", 0);
        for (int size = 0; size <= 8; size++) {
            Check.due("fit(0)", x.fit(0), size);
            for (int actor = 0; actor < 12; actor++) {
                Check.dueAbout(x, actor, 0, 6, actor < size ? 1 : 0);
                Check.dueAbout(x, actor, 0, 7, actor < size ? 1 : 0);
            }
            x.role(0, 0, 1, false);
        }
    }

    private static void guest() {
        PlayCompany x = cast();
        Check.dueTerms(x, "may if guest;", 0);
        int[] due = {0, 0, 1, 0};
        for (int actor = 0; actor < 4; actor++) {
            Check.dueAbout(x, actor, 0, 4, due[actor]);
            Check.due("may(" + actor + ", 0)", x.may(actor, 0), due[actor]);
        }
    }

    private static void comparisons() {
        PlayCompany x = cast();
        x.plays(0, 11, 5);
        String[] what = {"age", "years", "fee", "grade", "roles"};
        int[] value = {2, 2, 1, 5, 1};
        for (int i = 0; i < what.length; i++) {
            for (int number = value[i] - 1; number <= value[i] + 1; number++) {
                dueMay(x, what[i] + " < " + number, 2 * 365, value[i] < number ? 1 : 0);
                dueMay(x, what[i] + " >= " + number, 2 * 365, value[i] >= number ? 1 : 0);
            }
        }
        PlayCompany y = one();
        dueMay(y, "age < 0", -1, 1);
        dueMay(y, "age >= 0", -1, 0);
        dueMay(y, "age < 0", 0, 0);
        dueMay(y, "years < 0", -1, 1);
        dueMay(y, "years >= 0", 0, 1);
    }

    /** All five differ, so that none can stand for another. */
    private static void eachItsOwn() {
        PlayCompany x = new PlayCompany();
        x.actor(40, -30 * 365, -20 * 365, false);
        x.plays(0, 0, 7);
        x.play(1, 0, 0, 0);
        x.role(0, 0, 1, true);
        x.role(0, 0, 1, true);
        x.doubles(0, 0, 1);
        Check.due("fit(0)", x.fit(0), 2);
        String[] what = {"age", "years", "fee", "grade", "roles"};
        int[] value = {30, 20, 40, 7, 2};
        for (int i = 0; i < what.length; i++) {
            dueMay(x, what[i] + " >= " + value[i], 0, 1);
            dueMay(x, what[i] + " < " + value[i], 0, 0);
            dueMay(x, what[i] + " < " + (value[i] + 1), 0, 1);
        }
    }

    private static void digits() {
        PlayCompany x = one();
        dueMay(x, "fee < 000011", 0, 1);
        dueMay(x, "fee < 000010", 0, 0);
        dueMay(x, "fee >= 01", 0, 1);
        dueMay(x, "age < 547945", 547945 * 365 - 1, 1);
        dueMay(x, "age >= 547945", 547945 * 365 - 1, 0);
        dueMay(x, "age >= 547945", 547945 * 365, 1);
        dueMay(x, "age >= 999999", 999999 * 365, 1);
        dueMay(x, "age < 999999", 999999 * 365 - 1, 1);
        Check.dueTerms(x, "pay 123456 if fee < 11; pay 999999 if not guest;", 0);
        Check.dueAbout(x, 0, 0, 7, 1123455);
    }

    private static void nots() {
        PlayCompany x = one();
        dueMay(x, "not guest", 0, 1);
        dueMay(x, "not not guest", 0, 0);
        dueMay(x, "not not not not not not not not guest", 0, 0);
        dueMay(x, "not not not not not not not guest", 0, 1);
        dueMay(x, "not guest or fee >= 1", 0, 1);
        dueMay(x, "not fee >= 1 or fee >= 1", 0, 1);
        dueMay(x, "not (fee >= 1 or fee >= 1)", 0, 0);
        dueMay(x, "not guest and guest", 0, 0);
        dueMay(x, "not (guest and guest)", 0, 1);
    }

    /** Of three parts each may be false or true: guest is false here, and fee >= 1 is true. */
    private static void orAndAnd() {
        String[] word = {"guest", "fee >= 1"};
        for (int bits = 0; bits < 8; bits++) {
            int a = bits & 1, b = bits >> 1 & 1, c = bits >> 2;
            String p = word[a], q = word[b], r = word[c];
            PlayCompany x = one();
            dueMay(x, p + " or " + q + " or " + r, 0, a | b | c);
            dueMay(x, p + " and " + q + " and " + r, 0, a & b & c);
            dueMay(x, p + " or " + q + " and " + r, 0, a | b & c);
            dueMay(x, p + " and " + q + " or " + r, 0, a & b | c);
            dueMay(x, "(" + p + " or " + q + ") and " + r, 0, (a | b) & c);
            dueMay(x, p + " and (" + q + " or " + r + ")", 0, a & (b | c));
            dueMay(x, "not " + p + " and " + q + " or not " + r, 0, (1 - a) & b | 1 - c);
            dueMay(x, p + " or not (" + q + " and not " + r + ")", 0, a | 1 - (b & 1 - c));
        }
    }

    private static void deep() {
        PlayCompany x = one();
        dueMay(x, "((((((((guest))))))))", 0, 0);
        dueMay(x, "((((((((fee>=1))))))))", 0, 1);
        String open = "fee>=1 and(".repeat(8);
        dueMay(x, open + "fee>=1" + ")".repeat(8), 0, 1);
        dueMay(x, open + "guest" + ")".repeat(8), 0, 0);
        open = "guest or(".repeat(8);
        dueMay(x, open + "fee>=1" + ")".repeat(8), 0, 1);
        dueMay(x, open + "guest" + ")".repeat(8), 0, 0);
        open = "guest or fee>=1 and(".repeat(8);
        dueMay(x, open + "guest or fee>=1 and fee>=1" + ")".repeat(8), 0, 1);
        dueMay(x, open + "guest or fee>=1 and guest" + ")".repeat(8), 0, 0);
        open = "not(guest or ".repeat(4);
        dueMay(x, open + "guest" + ")".repeat(4), 0, 0);
        dueMay(x, open + "fee>=1" + ")".repeat(4), 0, 1);
        dueMay(x, "guest" + " or guest".repeat(80) + " or fee>=1", 0, 1);
        dueMay(x, "fee>=1" + " and fee>=1".repeat(65) + " and guest", 0, 0);
    }

    private static void pay() {
        PlayCompany x = cast();
        Check.dueAbout(x, 0, 0, 7, 0);
        Check.dueTerms(x, "pay 999999 if fee>=1;".repeat(10), 0);
        Check.dueAbout(x, 0, 0, 7, 9999990);
        Check.dueAbout(x, 3, 0, 7, 9999990);
        Check.dueTerms(x, "pay 1 if fee<2; pay 10 if fee>=2; may if guest; most 100 if fee>=1; least 1000 if fee>=1; pay 20 if roles>=2;", 0);
        int[] due = {1, 10, 30, 10};
        for (int actor = 0; actor < 4; actor++) {
            Check.dueAbout(x, actor, 0, 7, due[actor]);
        }
        Check.dueTerms(x, "pay 0 if fee>=1;", 0);
        Check.dueAbout(x, 0, 0, 7, 0);
        Check.dueTerms(x, "pay 5 if age>=1;", 0);
        Check.dueAbout(x, 0, 364, 7, 0);
        Check.dueAbout(x, 0, 365, 7, 5);
    }

    private static void may() {
        PlayCompany x = cast();
        Check.due("without terms", x.may(0, 0), 1);
        Check.dueTerms(x, "may if fee<3; may if fee>=2; may if not guest;", 0);
        int[] due = {0, 1, 0, 0};
        for (int actor = 0; actor < 4; actor++) {
            Check.due("may(" + actor + ", 0)", x.may(actor, 0), due[actor]);
        }
        Check.dueTerms(x, "may if fee>=1;".repeat(9) + "may if fee<2;", 0);
        Check.due("the tenth term, too", x.may(1, 0), 0);
        Check.due("the tenth term holds", x.may(0, 0), 1);
        Check.dueTerms(x, "most 0 if fee>=1; least 9 if fee>=1; pay 1 if guest;", 0);
        Check.due("other terms do not matter", x.may(0, 0), 1);
        Check.dueTerms(x, "may if age>=1;", 0);
        Check.due("may(0, 364)", x.may(0, 364), 0);
        Check.due("may(0, 365)", x.may(0, 365), 1);
        x.comes(0, false);
        Check.due("who is not in may, too", x.may(0, 365), 1);
    }

    private static void mayWithoutActor() {
        PlayCompany x = cast();
        for (int round = 0; round < 2; round++) {
            for (int actor : NO_NUMBERS) {
                Check.due("may(" + actor + ", 0)", x.may(actor, 0), -1);
            }
            Check.due("may(4, 0)", x.may(4, 0), -1);
            Check.due("may(12, 0)", x.may(12, 0), -1);
            Check.dueTerms(x, "may if guest;", 0);
        }
        Check.due("may(3, 0)", x.may(3, 0), 0);
        Check.due("nobody at all", new PlayCompany().may(0, 0), -1);
    }

    private static void keepsMay() {
        PlayCompany x = cast();
        dueBroken(x, "may if fee<4;", -1);
        dueBroken(x, "may if fee<3;", 0);
        dueBroken(x, "may if fee>=2;", 0);
        dueBroken(x, "may if guest;", 0);
        dueBroken(x, "may if fee>=1; may if fee<3;", 1);
        Check.dueTerms(x, "may if age>=1;", 0);
        Check.due("broken(364)", x.broken(364), 0);
        Check.due("broken(365)", x.broken(365), -1);
    }

    private static void keepsMost() {
        PlayCompany x = cast();
        dueBroken(x, "most 3 if fee>=1;", -1);
        dueBroken(x, "most 2 if fee>=1;", 0);
        dueBroken(x, "most 4 if fee>=1;", -1);
        dueBroken(x, "most 0 if fee>=4;", -1);
        dueBroken(x, "most 0 if fee>=3;", 0);
        dueBroken(x, "most 1 if fee>=3;", -1);
        dueBroken(x, "most 999999 if fee>=1;", -1);
    }

    private static void keepsLeast() {
        PlayCompany x = cast();
        dueBroken(x, "least 3 if fee>=1;", -1);
        dueBroken(x, "least 4 if fee>=1;", 0);
        dueBroken(x, "least 2 if fee>=1;", -1);
        dueBroken(x, "least 0 if fee>=4;", -1);
        dueBroken(x, "least 1 if fee>=4;", 0);
        dueBroken(x, "least 1 if fee>=3;", -1);
        dueBroken(x, "least 2 if fee>=3;", 0);
        dueBroken(x, "least 999999 if fee>=1;", 0);
    }

    private static void countedOnce() {
        PlayCompany x = cast();
        dueBroken(x, "most 1 if guest;", -1);
        dueBroken(x, "least 2 if guest;", 0);
        dueBroken(x, "most 1 if roles>=2;", -1);
        dueBroken(x, "least 1 if roles>=2;", -1);
        dueBroken(x, "least 2 if roles>=2;", 0);
    }

    private static void keepsPay() {
        PlayCompany x = cast();
        dueBroken(x, "pay 0 if guest;", -1);
        dueBroken(x, "pay 5 if fee<1;", -1);
        dueBroken(x, "pay 5 if fee>=1;", -1);
        dueBroken(x, "pay 999999 if fee<1;", -1);
    }

    private static void actorsInIt() {
        PlayCompany x = cast();
        dueBroken(x, "most 0 if roles<1;", -1);
        dueBroken(x, "may if roles>=1;", -1);
        x.comes(0, false);
        x.comes(1, false);
        x.comes(2, false);
        dueBroken(x, "least 3 if fee>=1;", -1);
        x.anew();
        dueBroken(x, "least 1 if fee>=1;", 0);
        PlayCompany y = new PlayCompany();
        y.play(1, 0, 0, 0);
        y.role(0, 0, 1, true);
        for (int actor = 0; actor < 12; actor++) {
            y.actor(actor + 1, 0, 0, false);
        }
        y.plays(11, 0, 1);
        Check.due("fit(0)", y.fit(0), 1);
        dueBroken(y, "may if fee>=12;", -1);
        dueBroken(y, "may if fee<12;", 0);
        dueBroken(y, "least 1 if fee>=12; most 1 if fee>=1; most 0 if fee<12; least 2 if fee>=1;", 3);
    }

    private static void emptyCast() {
        PlayCompany x = one();
        x.play(1, 0, 0, 0);
        Check.due("fit(0)", x.fit(0), 0);
        dueBroken(x, "", -1);
        dueBroken(x, "may if guest; may if not guest;", -1);
        dueBroken(x, "most 0 if fee>=1;", -1);
        dueBroken(x, "least 0 if fee>=1;", -1);
        dueBroken(x, "least 1 if fee>=1;", 0);
        dueBroken(x, "pay 5 if fee>=1;", -1);
    }

    private static void firstBroken() {
        PlayCompany x = cast();
        String kept = "pay 1 if guest;";
        String broken = "may if guest;";
        for (int first = 0; first < 10; first++) {
            dueBroken(x, kept.repeat(first) + broken.repeat(10 - first), first);
        }
        PlayCompany y = cast();
        dueBroken(y, "most 3 if fee>=1; least 4 if fee>=1; may if guest;", 1);
        dueBroken(y, "may if fee>=1; pay 1 if guest; most 2 if fee>=1; least 4 if fee>=1;", 2);
    }

    private static void keepsAll() {
        PlayCompany x = cast();
        Check.due("without terms", x.broken(0), -1);
        dueBroken(x, "pay 1 if guest;".repeat(10), -1);
        dueBroken(x, "may if fee>=1; most 3 if fee>=1; least 3 if fee>=1; pay 1 if guest;", -1);
    }

    private static void brokenOfNone() {
        PlayCompany x = one();
        Check.due("broken(0)", x.broken(0), -2);
        x.play(1, 0, 0, 0);
        x.role(0, 0, 1, true);
        Check.dueTerms(x, "least 1 if guest;", 0);
        Check.due("with terms", x.broken(0), -2);
        Check.due("fit(0)", x.fit(0), -1);
        Check.due("behind a refused fit", x.broken(0), -2);
        x.week(1);
        Check.due("with a week", x.broken(0), -2);
    }

    private static void whats() {
        PlayCompany x = new PlayCompany();
        x.actor(33, -366, -731, true);
        x.plays(0, 2, 8);
        x.play(1, 0, 0, 0);
        x.role(0, 2, 1, true);
        x.fit(0);
        Check.dueTerms(x, "pay 77 if guest;", 0);
        int[] due = {1, 2, 33, 8, 1, 1, 1, 77};
        for (int what = 0; what < 8; what++) {
            Check.dueAbout(x, 0, 0, what, due[what]);
        }
        x.comes(0, false);
        due[5] = 0;
        for (int what = 0; what < 8; what++) {
            Check.dueAbout(x, 0, 0, what, due[what]);
        }
        x.actor(1, 0, 0, false);
        for (int what = 0; what < 8; what++) {
            Check.dueAbout(x, 1, 0, what, what == 2 || what == 5 ? 1 : 0);
        }
    }

    private static void aboutWithoutActor() {
        PlayCompany x = cast();
        for (int what = 0; what < 8; what++) {
            for (int actor : NO_NUMBERS) {
                Check.dueNoAbout(x, actor, 0, what);
            }
            Check.dueNoAbout(x, 4, 0, what);
            Check.dueNoAbout(x, 12, 0, what);
            Check.dueNoAbout(new PlayCompany(), 0, 0, what);
        }
        Check.dueAbout(x, 3, 0, 2, 4);
        Check.dueAbout(x, 0, 0, 2, 1);
    }

    private static void anotherWhat() {
        PlayCompany x = cast();
        for (int what : NO_NUMBERS) {
            Check.dueNoAbout(x, 0, 0, what);
        }
        Check.dueNoAbout(x, 0, 0, 8);
        Check.dueNoAbout(x, 3, 0, 9);
        Check.dueNoAbout(x, 4, 0, 8);
    }

    private static void counts() {
        PlayCompany x = new PlayCompany();
        int[] due = {3, 4, 5, 2, 1, 3, 20, 2};
        for (int i = 0; i < 3; i++) {
            x.actor(1, 0, 0, false);
        }
        for (int i = 0; i < 4; i++) {
            x.play(1, 0, 0, 0);
        }
        for (int i = 0; i < 5; i++) {
            x.fact(0, 0, 0);
        }
        Check.dueTerms(x, "may if guest;pay 1 if guest;", 0);
        x.fit(1);
        x.week(7);
        x.feed(0, 0, 0, 0, 0);
        x.comes(1, false);
        for (int what = 0; what < 8; what++) {
            Check.due("count(" + what + ")", x.count(what), due[what]);
        }
    }

    private static void countOfTheCast() {
        PlayCompany x = new PlayCompany();
        Check.due("count(4)", x.count(4), -1);
        for (int play = 0; play < 12; play++) {
            x.play(1, 0, 0, 0);
            Check.due("fit(" + play + ")", x.fit(play), 0);
            Check.due("count(4)", x.count(4), play);
        }
        x.fit(3);
        x.fit(12);
        x.anew();
        Check.due("count(4)", x.count(4), 3);
    }

    private static void countOfAnother() {
        PlayCompany x = cast();
        for (int what : NO_NUMBERS) {
            Check.due("count(" + what + ")", x.count(what), -1);
        }
        Check.due("count(8)", x.count(8), -1);
        Check.due("count(9)", x.count(9), -1);
        Check.due("count(256)", x.count(256), -1);
    }
}
