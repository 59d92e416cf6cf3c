import java.util.Arrays;
import java.util.List;

/** The edges of promise 22 (terms): tokens, grammar and faults, a test for each sentence. */
public final class TermsEdgesTest {
    private static final List<String> TOKENS = List.of("may", "most", "least", "pay", "if", "or", "and", "not", "guest",
            "age", "years", "fee", "grade", "roles", "(", ")", ";", "<", ">=", "0", "999999",
            "1234567", "word", "May", "#", ">", "=", "-", ",", ".");
    private static final String OPERAND = "not ( guest age years fee grade roles";
    private static final String TEN = "may if guest;".repeat(10);

    public static void main(String[] args) {
        Check.sentence("4: TEXT: any number of TERMS", TermsEdgesTest::anyNumberOfTerms);
        Check.sentence("4: blanks (32, 10) between where one likes", TermsEdgesTest::blanks);
        Check.sentence("4: no other byte is a blank", TermsEdgesTest::otherBytes);
        Check.sentence("4: blanks are not within TOKENS", TermsEdgesTest::blanksWithinTokens);
        Check.sentence("4: WORDS: small letters, as many as stand together", TermsEdgesTest::words);
        Check.sentence("4: NUMBERS: 1 to 6 digits", TermsEdgesTest::numbers);
        Check.sentence("4: SIGNS ( ) ; < and >=", TermsEdgesTest::signs);
        Check.sentence("4: TERM: may if E ;", () -> goesOn("", "may most least pay", true));
        Check.sentence("4: TERM: behind may", () -> goesOn("may ", "if", false));
        Check.sentence("4: TERM: behind most", () -> goesOn("most ", "0 999999", false));
        Check.sentence("4: TERM: behind least", () -> goesOn("least ", "0 999999", false));
        Check.sentence("4: TERM: behind pay", () -> goesOn("pay ", "0 999999", false));
        Check.sentence("4: TERM: behind most NUMBER", () -> goesOn("most 5 ", "if", false));
        Check.sentence("4: TERM: behind least NUMBER", () -> goesOn("least 5 ", "if", false));
        Check.sentence("4: TERM: behind pay NUMBER", () -> goesOn("pay 5 ", "if", false));
        Check.sentence("4: E: behind if", () -> goesOn("may if ", OPERAND, false));
        Check.sentence("4: E: behind a T", () -> goesOn("may if guest ", "or and ;", false));
        Check.sentence("4: E: behind or", () -> goesOn("may if guest or ", OPERAND, false));
        Check.sentence("4: T: behind and", () -> goesOn("may if guest and ", OPERAND, false));
        Check.sentence("4: F: behind not", () -> goesOn("may if not ", OPERAND, false));
        Check.sentence("4: F: behind not F", () -> goesOn("may if not guest ", "or and ;", false));
        Check.sentence("4: F: behind (", () -> goesOn("may if ( ", OPERAND, false));
        Check.sentence("4: F: behind ( E", () -> goesOn("may if ( guest ", "or and )", false));
        Check.sentence("4: F: behind ( E )", () -> goesOn("may if ( guest ) ", "or and ;", false));
        Check.sentence("4: F: behind not ( E", () -> goesOn("may if not ( not guest ", "or and )", false));
        Check.sentence("4: F: behind WHAT", TermsEdgesTest::behindWhat);
        Check.sentence("4: F: behind WHAT <", () -> goesOn("may if age < ", "0 999999", false));
        Check.sentence("4: F: behind WHAT >=", () -> goesOn("may if age >= ", "0 999999", false));
        Check.sentence("4: F: behind WHAT < NUMBER", () -> goesOn("may if age < 5 ", "or and ;", false));
        Check.sentence("4: TEXT: behind a TERM", () -> goesOn("may if guest ; ", "may most least pay", true));
        Check.sentence("4: FAULT 1: the end: at how many bytes there are", TermsEdgesTest::theEnd);
        Check.sentence("4: FAULT 1: a NUMBER of more digits at its first one", TermsEdgesTest::moreDigits);
        Check.sentence("4: FAULT 1: other words, at their first letter", TermsEdgesTest::otherWords);
        Check.sentence("4: FAULT 2 at the word of an 11th TERM", TermsEdgesTest::eleventhTerm);
        Check.sentence("4: FAULT 2 at a not or ( that would lie within 8 others", TermsEdgesTest::withinEight);
        Check.sentence("4: FAULT 2: within others, not behind them", TermsEdgesTest::behindOthers);
        Check.sentence("4: FAULT 2: others of its TERM", TermsEdgesTest::ofItsTerm);
        Check.sentence("4: FAULTS: the first from the left", TermsEdgesTest::firstFromTheLeft);
        Check.sentence("4: FAULTS: of one place the least", TermsEdgesTest::ofOnePlaceTheLeast);
        Check.sentence("4: a TEXT with a FAULT changes nothing", TermsEdgesTest::faultChangesNothing);
        Check.sentence("22: in place of those there were", TermsEdgesTest::inPlaceOfThoseBefore);
        Check.sentence("22: the FAULT: its kind, and 16 times its place", TermsEdgesTest::kindAndPlace);
        Check.finish();
    }

    private static int fault(int kind, int place) {
        return kind + 16 * place;
    }

    /** Reads a text with a new object. */
    private static void dueTerms(String text, int want) {
        Check.dueTerms(new PlayCompany(), text, want);
    }

    private static void dueCount(String text, int want) {
        PlayCompany x = new PlayCompany();
        Check.dueTerms(x, text, 0);
        Check.due("count(3) of '" + text + "'", x.count(3), want);
    }

    /** Behind a text, each token: those that go on, and those that do not, which are the fault. */
    private static void goesOn(String text, String good, boolean mayEnd) {
        List<String> fitting = Arrays.asList(good.split(" "));
        dueTerms(text, mayEnd ? 0 : fault(1, text.length()));
        for (String token : TOKENS) {
            boolean ends = token.equals(";");
            int end = ends ? 0 : fault(1, text.length() + token.length());
            dueTerms(text + token, fitting.contains(token) ? end : fault(1, text.length()));
        }
    }

    private static void behindWhat() {
        for (String what : new String[] {"age", "years", "fee", "grade", "roles"}) {
            goesOn("may if " + what + " ", "< >=", false);
        }
    }

    private static void anyNumberOfTerms() {
        dueCount("", 0);
        dueCount(" ", 0);
        for (int terms = 1; terms <= 10; terms++) {
            dueCount("may if guest;".repeat(terms), terms);
        }
        dueCount("may if guest; most 1 if guest; least 1 if guest; pay 1 if guest;", 4);
    }

    private static void blanks() {
        dueCount("may if guest;", 1);
        dueCount("most1if(guest);", 1);
        dueCount(" most 1 if ( guest ) ; ", 1);
        dueCount("\nmost\n1\nif\n(\nguest\n)\n;\n", 1);
        dueCount("  \n\n most \n  1 \n\n if  age  >=  1  or  fee<1and\nnot(guest)  ;   ", 1);
        dueCount("least 5if age<1or years>=2and fee<3;pay 6if guest;", 2);
    }

    private static void otherBytes() {
        for (int sign = 0; sign < 256; sign++) {
            boolean isBlank = sign == 32 || sign == 10;
            char odd = (char) sign;
            if (odd != ';' && odd != 'm') {
                dueTerms("may if guest;" + odd, isBlank ? 0 : fault(1, 13));
            }
            if (!(odd >= 'a' && odd <= 'z')) {
                dueTerms("may" + odd + "if guest;", isBlank ? 0 : fault(1, 3));
            }
        }
    }

    private static void blanksWithinTokens() {
        dueTerms("ma y if guest;", fault(1, 0));
        dueTerms("m\nay if guest;", fault(1, 0));
        dueTerms("may i f guest;", fault(1, 4));
        dueTerms("may if gue st;", fault(1, 7));
        dueTerms("may if age > = 5;", fault(1, 11));
        dueTerms("may if age < 5 6;", fault(1, 15));
    }

    private static void words() {
        dueTerms("mayif guest;", fault(1, 0));
        dueTerms("may ifguest;", fault(1, 4));
        dueTerms("may if guestor guest;", fault(1, 7));
        dueTerms("may if notguest;", fault(1, 7));
        dueTerms("may if not(guest)and(guest)or(guest);", 0);
        dueTerms("may if age<1or guest;", 0);
        dueTerms("may if age<1orguest;", fault(1, 12));
        dueTerms("most 5if guest;", 0);
        dueTerms("most5 if guest;", 0);
        dueTerms("MAY if guest;", fault(1, 0));
        dueTerms("mAy if guest;", fault(1, 0));
        dueTerms("may if guesT;", fault(1, 7));
        dueTerms("may if age`<1;", fault(1, 10));
        dueTerms("may if age{<1;", fault(1, 10));
        for (char letter = 'a'; letter <= 'z'; letter++) {
            dueTerms("may if age" + letter + "<1;", fault(1, 7));
            dueTerms("may if " + letter + "age<1;", fault(1, 7));
        }
    }

    private static void numbers() {
        for (String number : new String[] {"0", "9", "10", "000000", "999999", "000001", "123456"}) {
            dueCount("most " + number + " if guest;", 1);
            dueCount("may if age < " + number + ";", 1);
        }
        dueTerms("most if guest;", fault(1, 5));
        dueTerms("most -1 if guest;", fault(1, 5));
        dueTerms("most +1 if guest;", fault(1, 5));
        dueTerms("most 1.5 if guest;", fault(1, 6));
        dueTerms("most 1/5 if guest;", fault(1, 6));
        dueTerms("most 1: if guest;", fault(1, 6));
    }

    private static void signs() {
        dueTerms("may if age<1;", 0);
        dueTerms("may if age>=1;", 0);
        dueTerms("may if age <1;", 0);
        dueTerms("may if age>= 1;", 0);
        dueTerms("may if age>1;", fault(1, 10));
        dueTerms("may if age<=1;", fault(1, 11));
        dueTerms("may if age=1;", fault(1, 10));
        dueTerms("may if age=>1;", fault(1, 10));
        dueTerms("may if age==1;", fault(1, 10));
        dueTerms("may if age>==1;", fault(1, 12));
        dueTerms("may if age>>=1;", fault(1, 10));
        dueTerms("may if age<>=1;", fault(1, 11));
        dueTerms("may if age!1;", fault(1, 10));
        dueTerms("may if [guest];", fault(1, 7));
        dueTerms("may if guest:", fault(1, 12));
        dueTerms("may if guest,", fault(1, 12));
        dueTerms("may if age>", fault(1, 10));
    }

    private static void theEnd() {
        String text = "most 5 if not ( age >= 10 and guest ) or fee < 3 ;";
        int[] ends = {4, 6, 9, 13, 15, 19, 22, 25, 29, 35, 37, 40, 44, 46, 48};
        for (int end : ends) {
            dueTerms(text.substring(0, end), fault(1, end));
            dueTerms(text.substring(0, end) + "  \n", fault(1, end + 3));
        }
        dueTerms(text, 0);
        dueTerms(text + " ma", fault(1, 51));
        dueTerms(text + " may", fault(1, 54));
    }

    private static void moreDigits() {
        for (String number : new String[] {"1234567", "0000000", "0000001", "4294967297", "18446744073709551617"}) {
            dueTerms("most " + number + " if guest;", fault(1, 5));
            dueTerms("least " + number + " if guest;", fault(1, 6));
            dueTerms("pay " + number + " if guest;", fault(1, 4));
            dueTerms("may if age<" + number + ";", fault(1, 11));
            dueTerms("may if age >=  " + number + ";", fault(1, 15));
            dueTerms("most " + number, fault(1, 5));
        }
    }

    private static void otherWords() {
        for (String word : new String[] {"m", "ma", "mays", "mosts", "leas", "leasts", "pays", "a", "z", "termsterms"}) {
            dueTerms(word + " if guest;", fault(1, 0));
            dueTerms("  " + word, fault(1, 2));
        }
        for (String word : new String[] {"i", "iff", "when"}) {
            dueTerms("may " + word + " guest;", fault(1, 4));
        }
        for (String word : new String[] {"g", "gues", "guests", "ag", "ages", "year", "yearss", "fe", "fees", "grad",
            "grades", "role", "roless", "no", "nott", "in", "pay", "minutes"}) {
            dueTerms("may if " + word + " < 5;", fault(1, 7));
        }
        for (String word : new String[] {"o", "orr", "an", "ands", "xor"}) {
            dueTerms("may if guest " + word + " guest;", fault(1, 13));
        }
    }

    private static void eleventhTerm() {
        dueCount(TEN, 10);
        dueCount(TEN + " \n", 10);
        for (String word : new String[] {"may", "most", "least", "pay"}) {
            dueTerms(TEN + word, fault(2, 130));
            dueTerms(TEN + "\n " + word, fault(2, 132));
            dueTerms(TEN + word + " # rubbish", fault(2, 130));
        }
        dueTerms(TEN + "may if guest;", fault(2, 130));
        dueTerms(TEN + "most 5 if guest; pay 5 if guest;", fault(2, 130));
        String nine = "pay 1 if guest;".repeat(9);
        dueCount(nine + "may if guest;", 10);
        dueTerms(nine + "may if guest;most 1 if guest;", fault(2, 148));
    }

    private static void withinEight() {
        for (int brackets = 0; brackets <= 8; brackets++) {
            String open = "(".repeat(brackets) + " not".repeat(8 - brackets);
            String close = ")".repeat(brackets);
            dueCount("may if " + open + " guest" + close + ";", 1);
            int place = 7 + open.length() + 1;
            dueTerms("may if " + open + " not guest" + close + ";", fault(2, place));
            dueTerms("may if " + open + " (guest)" + close + ";", fault(2, place));
            dueTerms("may if " + open + " not", fault(2, place));
            dueTerms("may if " + open + " (", fault(2, place));
        }
        dueTerms("may if not(not(not(not(guest and guest))));", 0);
        dueTerms("may if not(not(not(not(guest and not guest))));", fault(2, 33));
        dueTerms("may if not(not(not(not(guest or (guest)))));", fault(2, 32));
        dueTerms("may if (((((((guest and (guest)) or guest))))));", 0);
        dueTerms("may if (((((((guest and ((guest))) or guest))))));", fault(2, 25));
    }

    private static void behindOthers() {
        dueTerms("may if " + "(guest)and ".repeat(20) + "not guest;", 0);
        dueTerms("may if " + "not guest or ".repeat(20) + "(guest);", 0);
        dueTerms("may if ((((((((guest)))))))) and ((((((((guest))))))));", 0);
        dueTerms("may if (((((((not guest and not guest or (guest))))))));", 0);
        dueTerms("may if not not not not not not not not guest or not not not not not not not not guest;", 0);
        dueTerms("may if ((((((((guest)))))))) and (((((((((guest)))))))));", fault(2, 41));
        dueTerms("may if (((((((not guest or not (guest))))))));", fault(2, 31));
        dueTerms("may if (((((((guest) and (guest)) and (((guest)))))))) and not guest;", 0);
    }

    private static void ofItsTerm() {
        String deep = "may if ((((((((guest))))))));";
        dueCount(deep + deep + "most 1 if not not not not (((( guest ))));", 3);
        dueTerms(deep + "may if (((((((((guest)))))))));", fault(2, deep.length() + 15));
    }

    private static void firstFromTheLeft() {
        dueTerms("may if # ; may if #;", fault(1, 7));
        dueTerms("may if (((((((((guest", fault(2, 15));
        dueTerms("may if (((((((((#", fault(2, 15));
        dueTerms("may if # (((((((((guest", fault(1, 7));
        dueTerms("may if guest (((((((((guest", fault(1, 13));
        dueTerms("may guest;" + TEN, fault(1, 4));
        dueTerms("may if (((((((((guest)))))))));" + TEN, fault(2, 15));
        dueTerms(TEN + "may if (((((((((guest)))))))));", fault(2, 130));
        dueTerms("may if guest; word #", fault(1, 14));
        dueTerms("#" + "1234567", fault(1, 0));
    }

    private static void ofOnePlaceTheLeast() {
        dueTerms(TEN + "if", fault(1, 130));
        dueTerms(TEN + "word", fault(1, 130));
        dueTerms(TEN + "mays", fault(1, 130));
        dueTerms(TEN + ";", fault(1, 130));
        dueTerms(TEN + "5", fault(1, 130));
        dueTerms("may if ((((((((guest (", fault(1, 21));
        dueTerms("may if ((((((((guest not", fault(1, 21));
        dueTerms("may if ((((((((age (", fault(1, 19));
        dueTerms("may if ((((((((;", fault(1, 15));
        dueTerms("may if ((((((((or", fault(1, 15));
        dueTerms("may if ((((((((", fault(1, 15));
    }

    private static void faultChangesNothing() {
        PlayCompany x = new PlayCompany();
        x.actor(5, 0, 0, true);
        x.actor(6, 0, 0, false);
        x.play(1, 0, 0, 0);
        x.fit(0);
        Check.dueTerms(x, "pay 7 if guest; least 1 if guest; may if fee < 6;", 0);
        String[] wrong = {"pay 9 if guest; may if not guest; least 0 if guest; #", "may", TEN + "may", "pay 8 if guest"};
        for (String text : wrong) {
            Check.feedText(x, text);
            Check.due("terms() of '" + text + "' has a fault", x.terms() > 0, true);
            Check.due("count(3)", x.count(3), 3);
            Check.dueAbout(x, 0, 0, 7, 7);
            Check.dueAbout(x, 1, 0, 7, 0);
            Check.due("broken(0)", x.broken(0), 1);
            Check.due("may(0, 0)", x.may(0, 0), 1);
            Check.due("may(1, 0)", x.may(1, 0), 0);
        }
        Check.dueTerms(x, "pay 8 if guest;", 0);
        Check.due("count(3)", x.count(3), 1);
        Check.dueAbout(x, 0, 0, 7, 8);
        PlayCompany y = new PlayCompany();
        y.actor(5, 0, 0, true);
        Check.dueTerms(y, "may if not guest; may", fault(1, 21));
        Check.due("count(3)", y.count(3), 0);
        Check.due("may(0, 0)", y.may(0, 0), 1);
    }

    private static void inPlaceOfThoseBefore() {
        PlayCompany x = new PlayCompany();
        x.actor(5, 0, 0, true);
        Check.dueTerms(x, "pay 7 if guest; may if not guest;", 0);
        Check.dueTerms(x, "pay 3 if guest;", 0);
        Check.due("count(3)", x.count(3), 1);
        Check.dueAbout(x, 0, 0, 7, 3);
        Check.due("may(0, 0)", x.may(0, 0), 1);
        for (int i = 0; i < 3; i++) {
            Check.dueTerms(x, TEN, 0);
            Check.due("count(3)", x.count(3), 10);
        }
        Check.due("terms() of the empty tape", x.terms(), 0);
        Check.due("count(3)", x.count(3), 0);
        Check.dueAbout(x, 0, 0, 7, 0);
    }

    private static void kindAndPlace() {
        dueTerms("#", 1);
        dueTerms(" #", 17);
        dueTerms(" ".repeat(15) + "#", 241);
        dueTerms(" ".repeat(16) + "#", 257);
        dueTerms(" ".repeat(799) + "#", 12785);
        dueTerms("may" + " ".repeat(797), 12801);
        dueTerms("may if" + " ".repeat(785) + "(((((((((", 2 + 16 * 799);
    }
}
