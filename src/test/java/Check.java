/** Counts and prints the calls whose answer is not the one that is due. */
final class Check {
    private static int wrong = 0;
    private static String sentence = "";

    private Check() {
    }

    /** The test of one sentence of the document: what goes wrong in it is told behind the sentence. */
    static void sentence(String words, Runnable test) {
        sentence = "[" + words + "] ";
        try {
            test.run();
        } catch (RuntimeException e) {
            fail("threw " + e);
        }
        sentence = "";
    }

    static void due(String call, long got, long want) {
        if (got != want) {
            fail(call + " answered " + got + ", due is " + want);
        }
    }

    static void due(String call, boolean got, boolean want) {
        due(call, got ? 1L : 0L, want ? 1L : 0L);
    }

    static void dueWhere(PlayCompany x, int item, int day, int n, int want) {
        String call = "where(" + item + ", " + day + ", " + n + ")";
        try {
            due(call, x.where(item, day, n), want);
        } catch (java.util.NoSuchElementException e) {
            fail(call + " threw, due is " + want);
        }
    }

    static void dueNoWhere(PlayCompany x, int item, int day, int n) {
        String call = "where(" + item + ", " + day + ", " + n + ")";
        try {
            fail(call + " answered " + x.where(item, day, n) + ", due is NoSuchElementException");
        } catch (java.util.NoSuchElementException e) {
            return;
        }
    }

    static void dueAbout(PlayCompany x, int actor, int day, int what, int want) {
        String call = "about(" + actor + ", " + day + ", " + what + ")";
        try {
            due(call, x.about(actor, day, what), want);
        } catch (java.util.NoSuchElementException e) {
            fail(call + " threw, due is " + want);
        }
    }

    static void dueNoAbout(PlayCompany x, int actor, int day, int what) {
        String call = "about(" + actor + ", " + day + ", " + what + ")";
        try {
            fail(call + " answered " + x.about(actor, day, what) + ", due is NoSuchElementException");
        } catch (java.util.NoSuchElementException e) {
            return;
        }
    }

    /** The cast at hand, from role 0 on. */
    static void dueHands(PlayCompany x, int... want) {
        for (int role = 0; role < want.length; role++) {
            due("hand(" + role + ")", x.hand(role), want[role]);
        }
    }

    /** Feeds a text, padded with blanks that end() takes off again. */
    static void feedText(PlayCompany x, String text) {
        int before = x.count(6);
        StringBuilder padded = new StringBuilder(text);
        while (padded.length() % 20 != 0) {
            padded.append(' ');
        }
        for (int i = 0; i < padded.length(); i += 20) {
            x.feed(four(padded, i), four(padded, i + 4), four(padded, i + 8), four(padded, i + 12), four(padded, i + 16));
        }
        due("end behind '" + text + "'", x.end(before + text.length()), before + text.length());
    }

    private static int four(StringBuilder text, int at) {
        return text.charAt(at) << 24 | text.charAt(at + 1) << 16 | text.charAt(at + 2) << 8 | text.charAt(at + 3);
    }

    static void dueTerms(PlayCompany x, String text, int want) {
        feedText(x, text);
        due("terms() of '" + text + "'", x.terms(), want);
        due("count(6) behind terms()", x.count(6), 0);
    }

    /** What the calls that only ask tell of an object: some 70 calls where there are two actors, and plays with five roles. */
    static String stateOf(PlayCompany x) {
        StringBuilder state = new StringBuilder();
        for (int i = 0; i < 8; i++) {
            state.append(" count").append(i).append('=').append(x.count(i));
            state.append(" hand").append(i).append('=').append(x.hand(i));
            state.append(" order").append(i).append('=').append(x.order(i));
        }
        state.append(" playable=").append(x.playable()).append(" fill=").append(x.fill(1000)).append(" broken=").append(x.broken(0));
        for (int holder = -2; holder < 12; holder++) {
            state.append(" held").append(holder).append('=').append(x.held(holder, 0));
        }
        for (int actor = 0; actor < x.count(0); actor++) {
            state.append(" may").append(actor).append('=').append(x.may(actor, 0));
            for (int what = 0; what < 8; what++) {
                state.append(" about").append(actor).append(',').append(what).append('=').append(x.about(actor, 0, what));
            }
            for (int play = 0; play < x.count(1); play++) {
                for (int role = 0; role < 8 && x.can(actor, play, role) != PlayCompany.NONE; role++) {
                    state.append(" can").append(actor).append(',').append(play).append(',').append(role);
                    state.append('=').append(x.can(actor, play, role));
                }
            }
        }
        return state.toString();
    }

    static void dueState(PlayCompany x, String want) {
        String got = stateOf(x);
        if (!got.equals(want)) {
            fail("the state is" + got + "\n    but due is" + want);
        }
    }

    static void fail(String what) {
        wrong++;
        System.out.println(sentence + what);
    }

    static void finish() {
        System.out.println(wrong == 0 ? "all answers are as due" : wrong + " answers are not as due");
        if (wrong != 0) {
            System.exit(1);
        }
    }
}
