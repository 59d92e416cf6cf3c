/** Counts and prints the calls whose answer is not the one that is due. */
final class Check {
    private static int wrong = 0;

    private Check() {
    }

    static void due(String call, long got, long want) {
        if (got != want) {
            wrong++;
            System.out.println(call + " answered " + got + ", due is " + want);
        }
    }

    static void due(String call, boolean got, boolean want) {
        due(call, got ? 1L : 0L, want ? 1L : 0L);
    }

    static void dueWhere(PlayCompany x, int item, int day, int n, int want) {
        String call = "where(" + item + ", " + day + ", " + n + ")";
        try {
            due(call, x.where(item, day, n), want);
        } catch (java.util.NoSuchElementException e) {
            fail(call + " threw, due is " + want);
        }
    }

    static void dueNoWhere(PlayCompany x, int item, int day, int n) {
        String call = "where(" + item + ", " + day + ", " + n + ")";
        try {
            fail(call + " answered " + x.where(item, day, n) + ", due is NoSuchElementException");
        } catch (java.util.NoSuchElementException e) {
            return;
        }
    }

    static void dueAbout(PlayCompany x, int actor, int day, int what, int want) {
        String call = "about(" + actor + ", " + day + ", " + what + ")";
        try {
            due(call, x.about(actor, day, what), want);
        } catch (java.util.NoSuchElementException e) {
            fail(call + " threw, due is " + want);
        }
    }

    static void dueNoAbout(PlayCompany x, int actor, int day, int what) {
        String call = "about(" + actor + ", " + day + ", " + what + ")";
        try {
            fail(call + " answered " + x.about(actor, day, what) + ", due is NoSuchElementException");
        } catch (java.util.NoSuchElementException e) {
            return;
        }
    }

    /** The cast at hand, from role 0 on. */
    static void dueHands(PlayCompany x, int... want) {
        for (int role = 0; role < want.length; role++) {
            due("hand(" + role + ")", x.hand(role), want[role]);
        }
    }

    /** Feeds a text, padded with blanks that end() takes off again. */
    static void feedText(PlayCompany x, String text) {
        int before = x.count(6);
        StringBuilder padded = new StringBuilder(text);
        while (padded.length() % 20 != 0) {
            padded.append(' ');
        }
        for (int i = 0; i < padded.length(); i += 20) {
            x.feed(four(padded, i), four(padded, i + 4), four(padded, i + 8), four(padded, i + 12), four(padded, i + 16));
        }
        due("end behind '" + text + "'", x.end(before + text.length()), before + text.length());
    }

    private static int four(StringBuilder text, int at) {
        return text.charAt(at) << 24 | text.charAt(at + 1) << 16 | text.charAt(at + 2) << 8 | text.charAt(at + 3);
    }

    static void dueTerms(PlayCompany x, String text, int want) {
        feedText(x, text);
        due("terms() of '" + text + "'", x.terms(), want);
        due("count(6) behind terms()", x.count(6), 0);
    }

    static void fail(String what) {
        wrong++;
        System.out.println(what);
    }

    static void finish() {
        System.out.println(wrong == 0 ? "all answers are as due" : wrong + " answers are not as due");
        if (wrong != 0) {
            System.exit(1);
        }
    }
}
