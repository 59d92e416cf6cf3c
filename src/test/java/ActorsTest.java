/** Promises 2 to 4 and 9: actor, plays, comes, can. */
public final class ActorsTest {
    public static void main(String[] args) {
        newActors();
        grades();
        comingAndGoing();
        whoCan();
        Check.finish();
    }

    private static void newActors() {
        PlayCompany x = new PlayCompany();
        Check.due("fee 0", x.actor(0, 0, 0, false), -1);
        Check.due("fee 101", x.actor(101, 0, 0, false), -1);
        Check.due("fee below", x.actor(Integer.MIN_VALUE, 0, 0, false), -1);
        Check.due("birth too early", x.actor(1, -100001, 0, false), -1);
        Check.due("birth too late", x.actor(1, 100001, 0, false), -1);
        Check.due("joined too early", x.actor(1, 0, -100001, false), -1);
        Check.due("joined too late", x.actor(1, 0, 100001, false), -1);
        Check.due("count(0)", x.count(0), 0);
        Check.due("the least of all", x.actor(1, -100000, -100000, false), 0);
        Check.due("the most of all", x.actor(100, 100000, 100000, true), 1);
        for (int number = 2; number < 12; number++) {
            Check.due("actor " + number, x.actor(number, 0, 0, false), number);
        }
        Check.due("a 13th actor", x.actor(1, 0, 0, false), -1);
        Check.due("count(0)", x.count(0), 12);
        Check.dueAbout(x, 0, 0, 2, 1);
        Check.dueAbout(x, 1, 0, 2, 100);
        Check.dueAbout(x, 11, 0, 2, 11);
        Check.dueAbout(x, 0, 0, 4, 0);
        Check.dueAbout(x, 1, 0, 4, 1);
    }

    private static void grades() {
        PlayCompany x = new PlayCompany();
        Check.due("nobody plays", x.plays(0, 0, 1), false);
        x.actor(1, 0, 0, false);
        Check.due("actor -1", x.plays(-1, 0, 1), false);
        Check.due("actor 1", x.plays(1, 0, 1), false);
        Check.due("actor 12", x.plays(12, 0, 1), false);
        Check.due("kind -1", x.plays(0, -1, 1), false);
        Check.due("kind 12", x.plays(0, 12, 1), false);
        Check.due("grade -1", x.plays(0, 0, -1), false);
        Check.due("grade 10", x.plays(0, 0, 10), false);
        Check.dueAbout(x, 0, 0, 3, 0);
        Check.due("plays(0, 11, 9)", x.plays(0, 11, 9), true);
        Check.due("plays(0, 0, 4)", x.plays(0, 0, 4), true);
        Check.dueAbout(x, 0, 0, 3, 9);
        Check.due("the grade goes", x.plays(0, 11, 0), true);
        Check.dueAbout(x, 0, 0, 3, 4);
    }

    private static void comingAndGoing() {
        PlayCompany x = new PlayCompany();
        Check.due("nobody comes", x.comes(0, true), false);
        x.actor(1, 0, 0, false);
        x.actor(1, 0, 0, false);
        Check.due("count(7)", x.count(7), 2);
        Check.due("comes(-1)", x.comes(-1, false), false);
        Check.due("comes(2)", x.comes(2, false), false);
        Check.due("comes(1, false)", x.comes(1, false), true);
        Check.due("once more", x.comes(1, false), true);
        Check.due("count(7)", x.count(7), 1);
        Check.dueAbout(x, 1, 0, 5, 0);
        Check.due("comes(1, true)", x.comes(1, true), true);
        Check.dueAbout(x, 1, 0, 5, 1);
        Check.due("count(7)", x.count(7), 2);
    }

    private static void whoCan() {
        PlayCompany x = new PlayCompany();
        x.actor(1, 0, 0, false);
        Check.due("no play", x.can(0, 0, 0), -1);
        x.play(1, 0, 0, 0);
        Check.due("no role", x.can(0, 0, 0), -1);
        x.role(0, 3, 5, false);
        Check.due("actor -1", x.can(-1, 0, 0), -1);
        Check.due("actor 1", x.can(1, 0, 0), -1);
        Check.due("play -1", x.can(0, -1, 0), -1);
        Check.due("play 1", x.can(0, 1, 0), -1);
        Check.due("role -1", x.can(0, 0, -1), -1);
        Check.due("role 1", x.can(0, 0, 1), -1);
        Check.due("grade 0", x.can(0, 0, 0), 0);
        x.plays(0, 3, 4);
        Check.due("grade below", x.can(0, 0, 0), 0);
        x.plays(0, 3, 5);
        Check.due("grade just", x.can(0, 0, 0), 1);
        x.comes(0, false);
        Check.due("not in", x.can(0, 0, 0), 0);
        x.comes(0, true);
        x.plays(0, 3, 0);
        x.plays(0, 11, 6);
        Check.due("another kind", x.can(0, 0, 0), 0);
        x.does(0, 0, 11);
        Check.due("another kind that does", x.can(0, 0, 0), 1);
        x.plays(0, 11, 4);
        Check.due("another kind, grade below", x.can(0, 0, 0), 0);
    }
}
