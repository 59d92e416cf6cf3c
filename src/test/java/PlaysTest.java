/** Promises 5 to 8: play, role, does, doubles. */
public final class PlaysTest {
    public static void main(String[] args) {
        newPlays();
        roles();
        otherKinds();
        pairs();
        Check.finish();
    }

    private static void newPlays() {
        PlayCompany x = new PlayCompany();
        Check.due("minutes 0", x.play(0, 0, 0, 0), -1);
        Check.due("minutes 241", x.play(241, 0, 0, 0), -1);
        Check.due("takings -1", x.play(1, -1, 0, 0), -1);
        Check.due("takings 1001", x.play(1, 1001, 0, 0), -1);
        Check.due("store -1", x.play(1, 0, -1, 0), -1);
        Check.due("store 12", x.play(1, 0, 12, 0), -1);
        Check.due("weight -1", x.play(1, 0, 0, -1), -1);
        Check.due("weight 31", x.play(1, 0, 0, 31), -1);
        Check.due("count(1)", x.count(1), 0);
        Check.due("the most of all", x.play(240, 1000, 11, 30), 0);
        for (int number = 1; number < 12; number++) {
            Check.due("play " + number, x.play(1, 0, 0, 0), number);
        }
        Check.due("a 13th play", x.play(1, 0, 0, 0), -1);
        Check.due("count(1)", x.count(1), 12);
    }

    private static void roles() {
        PlayCompany x = new PlayCompany();
        Check.due("no play", x.role(0, 0, 1, false), -1);
        x.play(1, 0, 0, 0);
        x.play(1, 0, 0, 0);
        Check.due("play -1", x.role(-1, 0, 1, false), -1);
        Check.due("play 2", x.role(2, 0, 1, false), -1);
        Check.due("kind -1", x.role(0, -1, 1, false), -1);
        Check.due("kind 12", x.role(0, 12, 1, false), -1);
        Check.due("grade 0", x.role(0, 0, 0, false), -1);
        Check.due("grade 10", x.role(0, 0, 10, false), -1);
        for (int number = 0; number < 8; number++) {
            Check.due("role " + number, x.role(0, 11, 9, false), number);
        }
        Check.due("a 9th role", x.role(0, 0, 1, false), -1);
        Check.due("a role of another play", x.role(1, 0, 1, true), 0);
        Check.due("playable()", x.playable(), 1);
    }

    private static void otherKinds() {
        PlayCompany x = new PlayCompany();
        Check.due("no play", x.does(0, 0, 0), false);
        x.play(1, 0, 0, 0);
        Check.due("no role", x.does(0, 0, 0), false);
        x.role(0, 5, 1, false);
        Check.due("play -1", x.does(-1, 0, 0), false);
        Check.due("play 1", x.does(1, 0, 0), false);
        Check.due("role -1", x.does(0, -1, 0), false);
        Check.due("role 1", x.does(0, 1, 0), false);
        Check.due("kind -1", x.does(0, 0, -1), false);
        Check.due("kind 12", x.does(0, 0, 12), false);
        Check.due("its own kind does already", x.does(0, 0, 5), false);
        Check.due("kind 0", x.does(0, 0, 0), true);
        Check.due("kind 0 again", x.does(0, 0, 0), false);
        Check.due("kind 11", x.does(0, 0, 11), true);
        x.role(0, 5, 1, false);
        Check.due("kind 0 for another role", x.does(0, 1, 0), true);
    }

    private static void pairs() {
        PlayCompany x = new PlayCompany();
        Check.due("no play", x.doubles(0, 0, 1), false);
        x.play(1, 0, 0, 0);
        Check.due("no roles", x.doubles(0, 0, 1), false);
        for (int i = 0; i < 5; i++) {
            x.role(0, 0, 1, false);
        }
        Check.due("play -1", x.doubles(-1, 0, 1), false);
        Check.due("play 1", x.doubles(1, 0, 1), false);
        Check.due("role -1", x.doubles(0, -1, 1), false);
        Check.due("role 5", x.doubles(0, 1, 5), false);
        Check.due("one and the same", x.doubles(0, 2, 2), false);
        Check.due("first", x.doubles(0, 4, 0), true);
        Check.due("first again", x.doubles(0, 4, 0), false);
        Check.due("first, told the other way", x.doubles(0, 0, 4), false);
        Check.due("second", x.doubles(0, 0, 1), true);
        Check.due("third", x.doubles(0, 1, 2), true);
        Check.due("fourth", x.doubles(0, 2, 3), false);
    }
}
