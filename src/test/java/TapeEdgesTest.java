/** The edges of promises 20 and 21 (feed, end), and of the tape in 22, a test for each sentence. */
public final class TapeEdgesTest {
    private static final int BLANKS = 0x20202020;

    public static void main(String[] args) {
        Check.sentence("1: an empty TAPE", TapeEdgesTest::emptyAtFirst);
        Check.sentence("20: twenty bytes: how many it has", TapeEdgesTest::howMany);
        Check.sentence("20: of each number the highest first", TapeEdgesTest::highestFirst);
        Check.sentence("20: bytes of 128 and more", TapeEdgesTest::highBytes);
        Check.sentence("20: come behind the TAPE", TapeEdgesTest::behindTheTape);
        Check.sentence("20: NONE if these would be more than 800", TapeEdgesTest::moreThan800);
        Check.sentence("21: the TAPE has its first n bytes alone: n", TapeEdgesTest::firstBytesAlone);
        Check.sentence("21: its first n bytes alone: a TOKEN that is cut", TapeEdgesTest::cutTokens);
        Check.sentence("21: NONE if it has less", TapeEdgesTest::hasLess);
        Check.sentence("21: NONE if n is below 0", TapeEdgesTest::belowZero);
        Check.sentence("22: it is empty then", TapeEdgesTest::emptyThen);
        Check.sentence("22: the TAPE is full", TapeEdgesTest::fullTape);
        Check.finish();
    }

    private static int fault(int kind, int place) {
        return kind + 16 * place;
    }

    private static int feedBlanks(PlayCompany x) {
        return x.feed(BLANKS, BLANKS, BLANKS, BLANKS, BLANKS);
    }

    private static void emptyAtFirst() {
        PlayCompany x = new PlayCompany();
        Check.due("count(6)", x.count(6), 0);
        Check.due("end(1)", x.end(1), -1);
        Check.due("end(0)", x.end(0), 0);
        Check.due("terms()", x.terms(), 0);
        Check.due("count(3)", x.count(3), 0);
    }

    private static void howMany() {
        PlayCompany x = new PlayCompany();
        for (int i = 1; i <= 40; i++) {
            Check.due("feed " + i, x.feed(i, -i, 0, Integer.MIN_VALUE, Integer.MAX_VALUE), 20 * i);
            Check.due("count(6)", x.count(6), 20 * i);
        }
    }

    private static void highestFirst() {
        for (int place = 0; place < 20; place++) {
            PlayCompany x = new PlayCompany();
            int[] five = {BLANKS, BLANKS, BLANKS, BLANKS, BLANKS};
            five[place / 4] ^= 0x01 << 24 - 8 * (place % 4);
            x.feed(five[0], five[1], five[2], five[3], five[4]);
            Check.due("a wrong byte " + place, x.terms(), fault(1, place));
        }
        PlayCompany y = new PlayCompany();
        Check.due("'may if guest;' and blanks", y.feed(0x6d617920, 0x69662067, 0x75657374, 0x3b0a200a, 0x0a0a0a0a), 20);
        Check.due("terms()", y.terms(), 0);
        Check.due("count(3)", y.count(3), 1);
    }

    private static void highBytes() {
        for (int high = 128; high < 256; high += 127) {
            for (int place = 0; place < 4; place++) {
                PlayCompany x = new PlayCompany();
                int shift = 24 - 8 * place;
                x.feed(BLANKS, BLANKS, BLANKS & ~(255 << shift) | high << shift, BLANKS, BLANKS);
                Check.due("byte " + high + " at " + (8 + place), x.terms(), fault(1, 8 + place));
            }
        }
        PlayCompany y = new PlayCompany();
        Check.due("a blank and 128", y.feed(BLANKS | 0x80808080, BLANKS, BLANKS, BLANKS, BLANKS), 20);
        Check.due("is none", y.terms(), fault(1, 0));
        PlayCompany z = new PlayCompany();
        z.feed(0xEDE1F9A0, 0xE9E6A0E7, 0xF5E5F3F4, 0xBB202020, BLANKS);
        Check.due("'may if guest;' with all the highest bits", z.terms(), fault(1, 0));
    }

    private static void behindTheTape() {
        PlayCompany x = new PlayCompany();
        Check.feedText(x, "may i");
        Check.feedText(x, "f gue");
        Check.feedText(x, "st;pay 5 if guest;");
        Check.due("count(6)", x.count(6), 28);
        Check.due("terms()", x.terms(), 0);
        Check.due("count(3)", x.count(3), 2);
    }

    private static void moreThan800() {
        PlayCompany x = new PlayCompany();
        for (int i = 1; i <= 40; i++) {
            feedBlanks(x);
        }
        Check.due("from 800 on", x.feed(0, 0, 0, 0, 0), -1);
        Check.due("count(6)", x.count(6), 800);
        for (int length = 799; length > 780; length--) {
            x.end(length);
            Check.due("from " + length + " on", x.feed(0, 0, 0, 0, 0), -1);
            Check.due("count(6)", x.count(6), length);
        }
        x.end(780);
        Check.due("from 780 on", feedBlanks(x), 800);
        Check.due("nothing of the refused bytes is there", x.terms(), 0);
        Check.due("behind terms() there is room", feedBlanks(x), 20);
    }

    private static void firstBytesAlone() {
        PlayCompany x = new PlayCompany();
        Check.feedText(x, "may if guest;#");
        Check.due("end(14), which is all", x.end(14), 14);
        Check.due("end(13)", x.end(13), 13);
        Check.due("count(6)", x.count(6), 13);
        Check.due("end(13) again", x.end(13), 13);
        Check.due("terms()", x.terms(), 0);
        Check.due("count(3)", x.count(3), 1);
        Check.feedText(x, "###################");
        Check.due("end(0)", x.end(0), 0);
        Check.due("count(6)", x.count(6), 0);
        Check.due("terms()", x.terms(), 0);
        Check.due("count(3)", x.count(3), 0);
        Check.feedText(x, "may if guests;");
        Check.due("end(12)", x.end(12), 12);
        Check.feedText(x, ";");
        Check.due("what comes then is behind the first 12", x.terms(), 0);
        Check.feedText(x, "may if guest");
        Check.due("end(11)", x.end(11), 11);
        Check.due("a byte too few", x.terms(), fault(1, 7));
    }

    private static void dueCut(String text, int n, int want) {
        PlayCompany x = new PlayCompany();
        Check.feedText(x, text);
        Check.due("end(" + n + ")", x.end(n), n);
        Check.due("terms() of the first " + n + " of '" + text + "'", x.terms(), want);
    }

    /** What stood behind the cut is not read on: neither letters, nor digits, nor the second byte of a sign. */
    private static void cutTokens() {
        dueCut("may if guest;", 2, fault(1, 0));
        dueCut("mays", 3, fault(1, 3));
        dueCut("may if guests", 12, fault(1, 12));
        dueCut("may if age>=5;", 11, fault(1, 10));
        dueCut("may if age>=5;", 12, fault(1, 12));
        dueCut("most 1234567", 11, fault(1, 11));
        dueCut("most 1234567", 12, fault(1, 5));
        dueCut("may if guest;;", 13, 0);
        dueCut("may if guest;may", 13, 0);
        PlayCompany x = new PlayCompany();
        x.actor(12, 0, 0, false);
        Check.feedText(x, "may if fee<123");
        x.end(13);
        Check.feedText(x, ";");
        Check.due("terms()", x.terms(), 0);
        Check.due("fee 12 is not below 12", x.may(0, 0), 0);
    }

    private static void hasLess() {
        PlayCompany x = new PlayCompany();
        Check.due("end(1) of an empty one", x.end(1), -1);
        feedBlanks(x);
        for (int n : new int[] {21, 22, 800, 801, Integer.MAX_VALUE}) {
            Check.due("end(" + n + ")", x.end(n), -1);
            Check.due("count(6)", x.count(6), 20);
        }
        x.end(7);
        Check.due("end(8)", x.end(8), -1);
        Check.due("end(20)", x.end(20), -1);
        Check.due("count(6)", x.count(6), 7);
        for (int i = 0; i < 39; i++) {
            feedBlanks(x);
        }
        Check.due("count(6)", x.count(6), 787);
        Check.due("end(788)", x.end(788), -1);
        Check.due("end(787)", x.end(787), 787);
    }

    private static void belowZero() {
        PlayCompany x = new PlayCompany();
        Check.due("end(-1) of an empty one", x.end(-1), -1);
        feedBlanks(x);
        Check.due("end(-1)", x.end(-1), -1);
        Check.due("end(-20)", x.end(-20), -1);
        Check.due("end(-2147483648)", x.end(Integer.MIN_VALUE), -1);
        Check.due("count(6)", x.count(6), 20);
    }

    private static void emptyThen() {
        PlayCompany x = new PlayCompany();
        Check.feedText(x, "may if guest;");
        Check.due("terms()", x.terms(), 0);
        Check.due("count(6)", x.count(6), 0);
        Check.due("end(1)", x.end(1), -1);
        Check.feedText(x, "may if guest");
        Check.due("terms() with a fault", x.terms(), fault(1, 12));
        Check.due("count(6) behind a fault", x.count(6), 0);
        Check.due("the empty tape is a text without terms", x.terms(), 0);
        Check.due("count(3)", x.count(3), 0);
    }

    private static void fullTape() {
        PlayCompany x = new PlayCompany();
        StringBuilder text = new StringBuilder("may if fee<1");
        while (text.length() < 799) {
            text.append(text.length() + 13 > 799 ? " " : "or not(fee<1)");
        }
        Check.dueTerms(x, text + ";", 0);
        Check.due("count(3)", x.count(3), 1);
        Check.dueTerms(x, text + " ", fault(1, 800));
        Check.dueTerms(x, text + "#", fault(1, 799));
        Check.due("a fault changes nothing", x.count(3), 1);
        PlayCompany y = new PlayCompany();
        Check.dueTerms(y, " ".repeat(787) + "may if guest;", 0);
        Check.due("count(3)", y.count(3), 1);
        Check.dueTerms(y, " \n".repeat(400), 0);
        Check.due("count(3)", y.count(3), 0);
        Check.dueTerms(y, ";".repeat(800), fault(1, 0));
        Check.dueTerms(y, ";5".repeat(400), fault(1, 0));
        Check.dueTerms(y, "z".repeat(800), fault(1, 0));
        Check.dueTerms(y, "most " + "7".repeat(795), fault(1, 5));
        Check.dueTerms(y, "may if " + "(".repeat(793), fault(2, 15));
        PlayCompany z = new PlayCompany();
        Check.dueTerms(z, " ".repeat(789) + "may if age>", fault(1, 799));
        Check.dueTerms(z, " ".repeat(788) + "may if age>=", fault(1, 800));
        Check.dueTerms(z, " ".repeat(789) + "most 123456", fault(1, 800));
        Check.dueTerms(z, " ".repeat(788) + "most 1234567", fault(1, 793));
        Check.dueTerms(z, " ".repeat(797) + "may", fault(1, 800));
        Check.dueTerms(z, " ".repeat(799) + "m", fault(1, 799));
    }
}
