/** An object is used for at most 512 calls: it answers as is due up to the last of them, the dearest calls too. */
public final class LastCallTest {
    private static final int CALLS = 512;

    public static void main(String[] args) {
        Check.sentence("512 calls: fit and anew", LastCallTest::casts);
        Check.sentence("512 calls: playable and fill", LastCallTest::fills);
        Check.sentence("512 calls: week", LastCallTest::weeks);
        Check.sentence("512 calls: fact, where and held", LastCallTest::facts);
        Check.sentence("512 calls: feed and terms", LastCallTest::texts);
        Check.sentence("512 calls: the fullest texts, one in place of the other", LastCallTest::fullestTexts);
        Check.sentence("512 calls: the fullest texts with a fault", LastCallTest::fullestFaults);
        Check.sentence("512 calls: refused ones", LastCallTest::refused);
        Check.finish();
    }

    /** 12 actors who can all (24 calls), and so many plays with so many roles each. */
    private static PlayCompany greatest(int plays, int roles) {
        PlayCompany x = new PlayCompany();
        for (int i = 0; i < 12; i++) {
            x.actor(1, 0, 0, false);
            x.plays(i, 0, 9);
        }
        for (int play = 0; play < plays; play++) {
            x.play(100, 10, play, play);
            for (int role = 0; role < roles; role++) {
                x.role(play, 0, 1, true);
            }
        }
        return x;
    }

    private static void casts() {
        PlayCompany x = greatest(1, 8);
        int used = 24 + 9;
        for (int night = 0; used + 4 <= CALLS; night++) {
            int ill = night % 8;
            Check.due("fit(0)", x.fit(0), 8);
            Check.due("comes", x.comes(ill, false), true);
            Check.due("anew()", x.anew(), 1);
            Check.due("comes", x.comes(ill, true), true);
            used += 4;
        }
        for (; used < CALLS; used++) {
            Check.due("fit(0)", x.fit(0), 8);
        }
    }

    private static void fills() {
        PlayCompany x = greatest(12, 8);
        for (int used = 24 + 12 * 9; used + 2 <= CALLS; used += 2) {
            Check.due("playable()", x.playable(), 0xFFF);
            Check.due("fill(800)", x.fill(800), 0xFF);
        }
    }

    private static void weeks() {
        PlayCompany x = greatest(12, 0);
        for (int used = 24 + 12; used + 2 <= CALLS; used += 2) {
            Check.due("week(0xFF)", x.week(0xFF), 14 + 1 + 2 + 3 + 4);
            Check.due("order(7)", x.order(7), 7);
        }
    }

    private static void facts() {
        PlayCompany x = new PlayCompany();
        for (int i = 0; i < 200; i++) {
            Check.due("fact(..)", x.fact(i % 20, i, i % 12), i);
        }
        for (int n = 1; n <= 156; n++) {
            Check.dueWhere(x, (n - 1) % 20, 200, n, (n - 1) % 12);
            Check.due("held(0, 200)", x.held(0, 200), 2);
        }
    }

    private static void texts() {
        PlayCompany x = new PlayCompany();
        x.actor(1, 0, 0, true);
        int used = 1;
        for (int round = 0; used + 44 <= CALLS; round++) {
            StringBuilder text = new StringBuilder();
            for (int term = 0; term < 10; term++) {
                text.append("pay ").append(round).append(" if (guest or guest)and(guest or guest)and not(fee>=3);");
            }
            Check.dueTerms(x, text.toString(), 0);
            Check.dueAbout(x, 0, 0, 7, 10 * round);
            used += (text.length() + 19) / 20 + 5;
        }
        for (; used < CALLS; used++) {
            Check.due("terms()", x.terms(), 0);
        }
        PlayCompany y = new PlayCompany();
        for (int round = 0; round < 12; round++) {
            for (int i = 1; i <= 40; i++) {
                Check.due("feed(..)", y.feed(0x28282828, 0x28282828, 0x28282828, 0x28282828, 0x28282828), 20 * i);
            }
            Check.due("feed(..)", y.feed(0, 0, 0, 0, 0), -1);
            Check.due("terms()", y.terms(), 1);
        }
    }

    /** As many comparisons as 800 bytes hold. */
    private static String fullest(String last) {
        StringBuilder text = new StringBuilder("pay 1if fee<1");
        while (text.length() + 8 + last.length() <= 800) {
            text.append("or fee<1");
        }
        return text.append(last).toString();
    }

    private static void fullestTexts() {
        PlayCompany x = new PlayCompany();
        x.actor(1, 0, 0, false);
        for (int round = 0; round < 11; round++) {
            Check.dueTerms(x, fullest("or fee>=1;"), 0);
            Check.dueAbout(x, 0, 0, 7, 1);
        }
        PlayCompany y = new PlayCompany();
        y.actor(1, 0, 0, false);
        for (int round = 0; round < 11; round++) {
            Check.dueTerms(y, fullest(";"), 0);
            Check.dueAbout(y, 0, 0, 7, 0);
        }
    }

    private static void fullestFaults() {
        PlayCompany x = new PlayCompany();
        x.actor(1, 0, 0, false);
        for (int round = 0; round < 10; round++) {
            String text = fullest("or");
            Check.dueTerms(x, text, 1 + 16 * text.length());
        }
        Check.dueTerms(x, fullest("or fee>=1;"), 0);
        Check.dueAbout(x, 0, 0, 7, 1);
    }

    private static void refused() {
        PlayCompany x = new PlayCompany();
        for (int i = 0; i < 85; i++) {
            Check.due("actor(..)", x.actor(0, 0, 0, false), -1);
            Check.due("play(..)", x.play(0, 0, 0, 0), -1);
            Check.due("anew()", x.anew(), -2);
            Check.dueNoWhere(x, 20, 0, 0);
            Check.dueNoAbout(x, 0, 0, 0);
            Check.due("week(1)", x.week(1), -1);
        }
        Check.due("actor(..)", x.actor(1, 0, 0, false), 0);
        Check.due("count(0)", x.count(0), 1);
    }
}
