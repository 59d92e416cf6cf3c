/** Promises 20 to 26: feed, end, terms, may, broken, about, count. */
public final class TermsTest {
    public static void main(String[] args) {
        tape();
        textsThatAreRight();
        faultsOfTokens();
        faultsOfPlace();
        faultsOfSize();
        conditions();
        castKeepsTerms();
        pay();
        daysAndYears();
        counts();
        Check.finish();
    }

    private static int fault(int kind, int place) {
        return kind + 16 * place;
    }

    private static void tape() {
        PlayCompany x = new PlayCompany();
        for (int i = 1; i <= 40; i++) {
            Check.due("feed " + i, x.feed(0x20202020, 0x20202020, 0x20202020, 0x20202020, 0x20202020), 20 * i);
        }
        Check.due("feed beyond 800", x.feed(0, 0, 0, 0, 0), -1);
        Check.due("count(6)", x.count(6), 800);
        Check.due("end(801)", x.end(801), -1);
        Check.due("end(-1)", x.end(-1), -1);
        Check.due("end(800)", x.end(800), 800);
        Check.due("end(781)", x.end(781), 781);
        Check.due("feed beyond 800 by one", x.feed(0, 0, 0, 0, 0), -1);
        Check.due("end(782)", x.end(782), -1);
        Check.due("end(780)", x.end(780), 780);
        Check.due("feed up to 800", x.feed(0x20202020, 0x20202020, 0x20202020, 0x20202020, 0x0A0A0AFF), 800);
        Check.due("the last byte is the lowest", x.terms(), fault(1, 799));
        Check.due("end(0)", x.end(0), 0);
        x.feed(0xFF202020, 0, 0, 0, 0);
        Check.due("the first byte is the highest", x.terms(), fault(1, 0));
        x.feed(0x20202020, 0x20202020, 0x20200020, 0, 0);
        Check.due("the third number", x.terms(), fault(1, 10));
        x.feed(0x20202020, 0, 0, 0, 0);
        x.end(4);
        Check.due("blanks alone", x.terms(), 0);
    }

    private static void textsThatAreRight() {
        PlayCompany x = new PlayCompany();
        String[] right = {"may if guest;", "\n may\nif(guest);\n", "most5if age<1and years>=000001or fee<999999;",
            "least 0 if not not grade>=3 or roles < 2;", "pay 7 if (guest or not (fee >= 1 and guest)) and not guest;"};
        for (String text : right) {
            Check.dueTerms(x, text, 0);
            Check.due("count(3)", x.count(3), 1);
        }
        Check.dueTerms(x, right[0] + right[2] + right[4], 0);
        Check.due("count(3)", x.count(3), 3);
        Check.dueTerms(x, "", 0);
        Check.due("count(3)", x.count(3), 0);
    }

    private static void faultsOfTokens() {
        PlayCompany x = new PlayCompany();
        Check.dueTerms(x, "may if guest;", 0);
        Check.dueTerms(x, "May if guest;", fault(1, 0));
        Check.dueTerms(x, "mayif guest;", fault(1, 0));
        Check.dueTerms(x, "may if guests;", fault(1, 7));
        Check.dueTerms(x, "may if gues;", fault(1, 7));
        Check.dueTerms(x, "may if guest\t;", fault(1, 12));
        Check.dueTerms(x, "may\r if guest;", fault(1, 3));
        Check.dueTerms(x, "may if guest" + (char) 233 + ";", fault(1, 12));
        Check.dueTerms(x, "may if age > 5;", fault(1, 11));
        Check.dueTerms(x, "may if age > = 5;", fault(1, 11));
        Check.dueTerms(x, "may if age >", fault(1, 11));
        Check.dueTerms(x, "may if age <= 5;", fault(1, 12));
        Check.dueTerms(x, "may if age = 5;", fault(1, 11));
        Check.dueTerms(x, "may if age < 1234567;", fault(1, 13));
        Check.dueTerms(x, "may if age < 0000001;", fault(1, 13));
        Check.dueTerms(x, "may if age < -1;", fault(1, 13));
        Check.dueTerms(x, "most 99999999999999999999 if guest;", fault(1, 5));
        Check.due("a fault changes nothing", x.count(3), 1);
    }

    private static void faultsOfPlace() {
        PlayCompany x = new PlayCompany();
        Check.dueTerms(x, "may", fault(1, 3));
        Check.dueTerms(x, "may  ", fault(1, 5));
        Check.dueTerms(x, "may if guest", fault(1, 12));
        Check.dueTerms(x, "may if", fault(1, 6));
        Check.dueTerms(x, "may if ;", fault(1, 7));
        Check.dueTerms(x, "may 5 if guest;", fault(1, 4));
        Check.dueTerms(x, "most if guest;", fault(1, 5));
        Check.dueTerms(x, "pay 5 guest;", fault(1, 6));
        Check.dueTerms(x, "if guest;", fault(1, 0));
        Check.dueTerms(x, ";", fault(1, 0));
        Check.dueTerms(x, "may if guest;;", fault(1, 13));
        Check.dueTerms(x, "may if (guest;", fault(1, 13));
        Check.dueTerms(x, "may if (guest", fault(1, 13));
        Check.dueTerms(x, "may if guest);", fault(1, 12));
        Check.dueTerms(x, "may if ();", fault(1, 8));
        Check.dueTerms(x, "may if guest guest;", fault(1, 13));
        Check.dueTerms(x, "may if guest not guest;", fault(1, 13));
        Check.dueTerms(x, "may if guest (guest);", fault(1, 13));
        Check.dueTerms(x, "may if guest and or guest;", fault(1, 17));
        Check.dueTerms(x, "may if or guest;", fault(1, 7));
        Check.dueTerms(x, "may if guest < 3;", fault(1, 13));
        Check.dueTerms(x, "may if age;", fault(1, 10));
        Check.dueTerms(x, "may if age < fee;", fault(1, 13));
        Check.dueTerms(x, "may if 5 < age;", fault(1, 7));
        Check.dueTerms(x, "may if age < 5 5;", fault(1, 15));
        Check.dueTerms(x, "may if not;", fault(1, 10));
        Check.dueTerms(x, "may if guest; may if guest", fault(1, 26));
        Check.due("count(3)", x.count(3), 0);
    }

    private static void faultsOfSize() {
        PlayCompany x = new PlayCompany();
        String ten = "may if guest;".repeat(10);
        Check.dueTerms(x, ten, 0);
        Check.due("count(3)", x.count(3), 10);
        Check.dueTerms(x, ten + "pay 1 if guest;", fault(2, 130));
        Check.dueTerms(x, ten + " least", fault(2, 131));
        Check.dueTerms(x, ten + "if", fault(1, 130));
        Check.dueTerms(x, ten + "#", fault(1, 130));
        Check.dueTerms(x, "may if ((((((((guest))))))));", 0);
        Check.dueTerms(x, "may if (((((((((guest)))))))));", fault(2, 15));
        Check.dueTerms(x, "may if ((((((((not guest))))))));", fault(2, 15));
        Check.dueTerms(x, "may if not not not not not not not not guest;", 0);
        Check.dueTerms(x, "may if not not not not not not not not not guest;", fault(2, 39));
        Check.dueTerms(x, "may if not not not not not not not not (guest);", fault(2, 39));
        Check.dueTerms(x, "may if not(not(not(not(not guest and (guest)))));", fault(2, 23));
        Check.dueTerms(x, "may if not(not(not(not guest and (guest))));", 0);
        Check.dueTerms(x, "may if not not not not not not not not guest and not guest or (guest);", 0);
        Check.dueTerms(x, "may if ((((((((guest)))))))) and ((((((((guest))))))));may if (guest);", 0);
        Check.dueTerms(x, "may if (((((((( (", fault(2, 16));
        Check.dueTerms(x, "may if (((((((( #", fault(1, 16));
        Check.dueTerms(x, "may if ((((((((guest (", fault(1, 21));
    }

    private static PlayCompany twoActors() {
        PlayCompany x = new PlayCompany();
        x.actor(10, 0, 365, false);
        x.actor(30, 3650, -365, true);
        x.plays(0, 0, 5);
        x.plays(1, 0, 3);
        x.plays(1, 11, 7);
        x.play(1, 0, 0, 0);
        x.role(0, 0, 1, true);
        x.role(0, 0, 4, false);
        x.role(0, 11, 1, false);
        return x;
    }

    private static void dueMay(PlayCompany x, String condition, int day, int first, int second) {
        Check.dueTerms(x, "may if " + condition + ";", 0);
        Check.due("may(0, " + day + ") if " + condition, x.may(0, day), first);
        Check.due("may(1, " + day + ") if " + condition, x.may(1, day), second);
    }

    private static void conditions() {
        PlayCompany x = twoActors();
        Check.due("may without terms", x.may(0, 0), 1);
        Check.due("may(-1)", x.may(-1, 0), -1);
        Check.due("may(2)", x.may(2, 0), -1);
        dueMay(x, "guest", 0, 0, 1);
        dueMay(x, "not guest", 0, 1, 0);
        dueMay(x, "not not guest", 0, 0, 1);
        dueMay(x, "age >= 10", 3650, 1, 0);
        dueMay(x, "age < 10", 3650, 0, 1);
        dueMay(x, "years < 1", 0, 1, 0);
        dueMay(x, "fee >= 30", 0, 0, 1);
        dueMay(x, "fee < 30", 0, 1, 0);
        dueMay(x, "grade >= 7", 0, 0, 1);
        dueMay(x, "grade >= 5", 0, 1, 1);
        dueMay(x, "roles >= 1", 0, 0, 0);
        dueMay(x, "guest or fee < 30", 0, 1, 1);
        dueMay(x, "guest and fee < 30", 0, 0, 0);
        dueMay(x, "guest or guest and fee < 1 or fee < 11", 0, 1, 1);
        dueMay(x, "fee < 11 or guest and fee < 1", 0, 1, 0);
        dueMay(x, "(fee < 11 or guest) and fee < 1", 0, 0, 0);
        dueMay(x, "not guest and fee < 11", 0, 1, 0);
        dueMay(x, "not (guest and fee < 11)", 0, 1, 1);
        dueMay(x, "not guest or fee < 11", 0, 1, 0);
        dueMay(x, "not (guest or fee < 11)", 0, 0, 0);
        dueMay(x, "age < 0", -1, 1, 1);
        x.fit(0);
        dueMay(x, "roles >= 1", 0, 1, 1);
        Check.dueTerms(x, "may if guest; may if fee < 1; least 9 if fee < 1;", 0);
        Check.due("each may-term", x.may(1, 0), 0);
        Check.dueTerms(x, "may if guest; most 0 if guest; least 9 if guest; pay 1 if fee < 1;", 0);
        Check.due("may-terms alone", x.may(1, 0), 1);
    }

    private static void dueBroken(PlayCompany x, String text, int want) {
        Check.dueTerms(x, text, 0);
        Check.due("broken(0) of " + text, x.broken(0), want);
    }

    private static void castKeepsTerms() {
        PlayCompany x = twoActors();
        Check.dueTerms(x, "may if guest;", 0);
        Check.due("broken() without a cast", x.broken(0), -2);
        x.doubles(0, 0, 1);
        x.comes(1, false);
        Check.due("fit(0)", x.fit(0), 2);
        Check.dueHands(x, 0, 0, -1);
        dueBroken(x, "may if guest;", 0);
        dueBroken(x, "may if not guest;", -1);
        dueBroken(x, "most 0 if not guest;", 0);
        dueBroken(x, "most 1 if not guest;", -1);
        dueBroken(x, "least 1 if not guest;", -1);
        dueBroken(x, "least 2 if not guest;", 0);
        dueBroken(x, "least 1 if guest;", 0);
        dueBroken(x, "pay 5 if guest;", -1);
        dueBroken(x, "pay 5 if guest; least 0 if guest; most 0 if guest; least 1 if roles >= 2; may if roles < 2;", 4);
        dueBroken(x, "", -1);
        x.comes(1, true);
        x.plays(0, 0, 4);
        Check.due("fit(0)", x.fit(0), 3);
        Check.dueHands(x, 0, 0, 1);
        dueBroken(x, "most 1 if fee >= 1;", 0);
        dueBroken(x, "most 2 if fee >= 1;", -1);
        dueBroken(x, "least 2 if fee >= 1;", -1);
        dueBroken(x, "least 3 if fee >= 1;", 0);
        dueBroken(x, "may if roles >= 2;", 0);
        Check.dueTerms(x, "may if age >= 0;", 0);
        Check.due("broken(3649)", x.broken(3649), 0);
        Check.due("broken(3650)", x.broken(3650), -1);
    }

    private static void pay() {
        PlayCompany x = twoActors();
        Check.dueAbout(x, 0, 0, 7, 0);
        Check.dueTerms(x, "pay 999999 if fee >= 1; pay 20 if guest; pay 999999 if not guest; may if guest; most 3 if fee >= 1;", 0);
        Check.dueAbout(x, 0, 0, 7, 1999998);
        Check.dueAbout(x, 1, 0, 7, 1000019);
        Check.dueTerms(x, "pay 3 if age >= 1;", 0);
        Check.dueAbout(x, 0, 364, 7, 0);
        Check.dueAbout(x, 0, 365, 7, 3);
        Check.dueTerms(x, "pay 3 if age;", fault(1, 12));
        Check.dueAbout(x, 0, 365, 7, 3);
    }

    private static void daysAndYears() {
        PlayCompany x = twoActors();
        Check.dueAbout(x, 0, 0, 0, 0);
        Check.dueAbout(x, 0, 364, 0, 0);
        Check.dueAbout(x, 0, 365, 0, 1);
        Check.dueAbout(x, 0, -1, 0, -1);
        Check.dueAbout(x, 0, -365, 0, -1);
        Check.dueAbout(x, 0, -366, 0, -2);
        Check.dueAbout(x, 0, 729, 1, 0);
        Check.dueAbout(x, 0, 0, 1, -1);
        Check.dueAbout(x, 1, Integer.MAX_VALUE, 1, 5883517);
        Check.dueAbout(x, 1, Integer.MIN_VALUE, 0, -5883527);
        Check.dueAbout(x, 1, 0, 2, 30);
        Check.dueAbout(x, 1, 0, 3, 7);
        Check.dueAbout(x, 1, 0, 4, 1);
        Check.dueAbout(x, 1, 0, 5, 1);
        Check.dueAbout(x, 1, 0, 6, 0);
        x.fit(0);
        Check.dueAbout(x, 1, 0, 6, 1);
        Check.dueNoAbout(x, -1, 0, 0);
        Check.dueNoAbout(x, 2, 0, 0);
        Check.dueNoAbout(x, 12, 0, 0);
        Check.dueNoAbout(x, 0, 0, -1);
        Check.dueNoAbout(x, 0, 0, 8);
    }

    private static void counts() {
        PlayCompany x = twoActors();
        x.play(1, 0, 0, 0);
        x.play(1, 0, 0, 0);
        x.fact(0, 0, 0);
        x.comes(0, false);
        x.week(7);
        x.fit(1);
        Check.dueTerms(x, "may if guest; pay 1 if guest;", 0);
        x.feed(0, 0, 0, 0, 0);
        int[] counts = {2, 3, 1, 2, 1, 3, 20, 1};
        for (int what = 0; what < counts.length; what++) {
            Check.due("count(" + what + ")", x.count(what), counts[what]);
        }
        Check.due("count(-1)", x.count(-1), -1);
        Check.due("count(8)", x.count(8), -1);
    }
}
