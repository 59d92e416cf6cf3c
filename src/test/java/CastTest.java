/** Promises 10 to 13: fit, anew, hand, playable. */
public final class CastTest {
    public static void main(String[] args) {
        mostRolesThenFirst();
        neededRolesDecide();
        onlyTheTwoOfOneDouble();
        doubleForWantOfOthers();
        fewestHandsChange();
        rolesThatComeLater();
        refusals();
        playableBits();
        theGreatest();
        Check.finish();
    }

    private static PlayCompany company(int actors, int roles, boolean needed) {
        PlayCompany x = new PlayCompany();
        for (int i = 0; i < actors; i++) {
            x.actor(1, 0, 0, false);
        }
        x.play(1, 0, 0, 0);
        for (int i = 0; i < roles; i++) {
            x.role(0, i, 1, needed);
        }
        return x;
    }

    private static void mostRolesThenFirst() {
        PlayCompany x = company(3, 3, false);
        x.plays(0, 0, 1);
        x.plays(0, 1, 1);
        x.plays(1, 0, 1);
        x.plays(2, 2, 1);
        Check.due("fit(0)", x.fit(0), 3);
        Check.dueHands(x, 1, 0, 2, -1);
        x.plays(2, 0, 1);
        x.plays(0, 2, 1);
        Check.due("fit(0)", x.fit(0), 3);
        Check.dueHands(x, 1, 0, 2);
        x.comes(1, false);
        Check.due("fit(0)", x.fit(0), 2);
        Check.dueHands(x, 0, -1, 2);
    }

    private static void neededRolesDecide() {
        PlayCompany x = company(1, 0, false);
        x.plays(0, 0, 5);
        x.role(0, 0, 1, false);
        x.role(0, 0, 1, true);
        Check.due("fit(0)", x.fit(0), 1);
        Check.dueHands(x, -1, 0);
        x.role(0, 0, 6, true);
        Check.due("fit(0) without a cast", x.fit(0), -1);
        Check.dueHands(x, -1, 0);
        Check.due("playable()", x.playable(), 0);
    }

    private static void onlyTheTwoOfOneDouble() {
        PlayCompany x = company(1, 0, false);
        x.plays(0, 0, 9);
        for (int i = 0; i < 4; i++) {
            x.role(0, 0, 1, false);
        }
        x.doubles(0, 1, 2);
        x.doubles(0, 2, 3);
        x.doubles(0, 1, 3);
        Check.due("fit(0)", x.fit(0), 2);
        Check.dueHands(x, -1, 0, 0, -1);
        x.actor(1, 0, 0, false);
        x.plays(1, 0, 9);
        Check.due("fit(0)", x.fit(0), 3);
        Check.dueHands(x, 0, 1, 1, -1);
    }

    private static void doubleForWantOfOthers() {
        PlayCompany x = company(3, 0, true);
        x.role(0, 0, 1, true);
        x.role(0, 1, 1, true);
        x.role(0, 2, 1, true);
        x.doubles(0, 2, 0);
        x.plays(0, 1, 1);
        x.plays(2, 0, 1);
        Check.due("playable()", x.playable(), 0);
        x.plays(2, 2, 1);
        Check.due("playable()", x.playable(), 1);
        Check.due("fit(0)", x.fit(0), 3);
        Check.dueHands(x, 2, 0, 2);
        Check.dueAbout(x, 2, 0, 6, 2);
        Check.dueAbout(x, 1, 0, 6, 0);
    }

    private static void fewestHandsChange() {
        PlayCompany x = company(4, 0, false);
        for (int i = 0; i < 3; i++) {
            x.role(0, 0, 1, i < 2);
        }
        for (int i = 1; i < 4; i++) {
            x.plays(i, 0, 1);
        }
        Check.due("fit(0)", x.fit(0), 3);
        Check.dueHands(x, 1, 2, 3);
        x.plays(0, 0, 1);
        Check.due("nothing changes", x.anew(), 0);
        Check.dueHands(x, 1, 2, 3);
        x.comes(2, false);
        Check.due("one is ill", x.anew(), 1);
        Check.dueHands(x, 1, 0, 3);
        x.comes(0, false);
        Check.due("two are ill, and the third role is left", x.anew(), 2);
        Check.dueHands(x, 1, 3, -1);
        x.comes(2, true);
        Check.due("a role that had nobody is no hand", x.anew(), 0);
        Check.dueHands(x, 1, 3, 2);
        x.comes(1, false);
        x.comes(2, false);
        Check.due("no cast now", x.anew(), -1);
        Check.dueHands(x, 1, 3, 2);
        x.plays(3, 0, 0);
        Check.due("still none", x.anew(), -1);
        x.comes(0, true);
        x.comes(1, true);
        Check.due("who can't any more is not kept", x.anew(), 2);
        Check.dueHands(x, 1, 0, -1);
    }

    private static void rolesThatComeLater() {
        PlayCompany x = company(2, 1, false);
        x.plays(0, 0, 1);
        x.plays(0, 7, 1);
        x.plays(1, 0, 1);
        x.fit(0);
        Check.dueHands(x, 0, -1);
        x.role(0, 7, 1, true);
        Check.dueHands(x, 0, -1);
        Check.due("the new role takes the actor", x.anew(), 1);
        Check.dueHands(x, 1, 0);
        x.play(1, 0, 0, 0);
        Check.due("a play without roles", x.fit(1), 0);
        Check.dueHands(x, -1, -1);
        Check.due("count(4)", x.count(4), 1);
        Check.due("anew()", x.anew(), 0);
    }

    private static void refusals() {
        PlayCompany x = company(1, 1, true);
        Check.due("anew() of none", x.anew(), -2);
        Check.due("fit(-1)", x.fit(-1), -2);
        Check.due("fit(1)", x.fit(1), -2);
        Check.due("fit(12)", x.fit(12), -2);
        Check.due("fit(0)", x.fit(0), -1);
        Check.due("count(4)", x.count(4), -1);
        x.plays(0, 0, 1);
        Check.due("fit(0)", x.fit(0), 1);
        Check.due("fit(1)", x.fit(1), -2);
        Check.due("count(4)", x.count(4), 0);
        Check.due("hand(-1)", x.hand(-1), -1);
        Check.due("hand(1)", x.hand(1), -1);
        Check.due("hand(8)", x.hand(8), -1);
        Check.due("hand(2147483647)", x.hand(Integer.MAX_VALUE), -1);
    }

    private static void playableBits() {
        PlayCompany x = company(1, 1, true);
        x.play(1, 0, 0, 0);
        x.play(1, 0, 0, 0);
        x.role(2, 1, 1, true);
        Check.due("playable()", x.playable(), 2);
        x.plays(0, 1, 1);
        Check.due("playable()", x.playable(), 6);
        x.comes(0, false);
        Check.due("playable()", x.playable(), 2);
    }

    private static void theGreatest() {
        PlayCompany x = new PlayCompany();
        x.play(1, 0, 0, 0);
        for (int i = 0; i < 8; i++) {
            x.role(0, 0, 1, true);
        }
        for (int i = 0; i < 12; i++) {
            x.actor(1, 0, 0, false);
            x.plays(i, 0, 9);
        }
        Check.due("fit(0)", x.fit(0), 8);
        Check.dueHands(x, 0, 1, 2, 3, 4, 5, 6, 7);
        for (int i = 0; i < 4; i++) {
            x.comes(i, false);
        }
        Check.due("anew()", x.anew(), 4);
        Check.dueHands(x, 8, 9, 10, 11, 4, 5, 6, 7);
        x.comes(11, false);
        Check.due("anew() of too few", x.anew(), -1);
        x.doubles(0, 3, 7);
        Check.due("anew() with a double", x.anew(), 1);
        Check.dueHands(x, 8, 9, 10, 7, 4, 5, 6, 7);
    }
}
