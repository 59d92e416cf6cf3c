/** The examples of README.md, one behind the other on one object. */
public final class ReadmeTest {
    public static void main(String[] args) {
        PlayCompany desk = new PlayCompany();
        castAnew(desk);
        week(desk);
        thing(desk);
        terms(desk);
        Check.finish();
    }

    private static void castAnew(PlayCompany desk) {
        Check.due("anna", desk.actor(10, -9000, 0, false), 0);
        Check.due("bert", desk.actor(20, -3650, 0, true), 1);
        Check.due("plays(anna, 0, 5)", desk.plays(0, 0, 5), true);
        Check.due("plays(bert, 0, 3)", desk.plays(1, 0, 3), true);
        Check.due("play", desk.play(90, 300, 2, 4), 0);
        Check.due("role(play, 0, 3, true)", desk.role(0, 0, 3, true), 0);
        Check.due("fit(play)", desk.fit(0), 1);
        Check.due("hand(0)", desk.hand(0), 0);
        Check.due("comes(anna, false)", desk.comes(0, false), true);
        Check.due("anew()", desk.anew(), 1);
        Check.due("hand(0)", desk.hand(0), 1);
    }

    private static void week(PlayCompany desk) {
        Check.due("other", desk.play(120, 500, 5, 10), 1);
        Check.due("week of both", desk.week(1 << 0 | 1 << 1), 14);
        Check.due("order(0)", desk.order(0), 0);
        Check.due("fill(200)", desk.fill(200), 2);
    }

    private static void thing(PlayCompany desk) {
        Check.due("fact(7, 100, play)", desk.fact(7, 100, 0), 0);
        Check.due("fact(7, 50, NONE)", desk.fact(7, 50, PlayCompany.NONE), 1);
        Check.dueWhere(desk, 7, 60, 2, -1);
        Check.dueWhere(desk, 7, 60, 1, -3);
        Check.due("held(play, 100)", desk.held(0, 100), 1);
    }

    private static void terms(PlayCompany desk) {
        Check.due("feed(..)", desk.feed(0x6d617920, 0x69662061, 0x67653e3d, 0x31383b20, 0x20202020), 20);
        Check.due("end(15)", desk.end(15), 15);
        Check.due("terms()", desk.terms(), 0);
        Check.due("may(bert, 0)", desk.may(1, 0), 0);
        Check.due("may(anna, 0)", desk.may(0, 0), 1);
        Check.due("broken(0)", desk.broken(0), 0);
    }
}
