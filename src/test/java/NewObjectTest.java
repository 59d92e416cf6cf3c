import java.lang.reflect.Constructor;
import java.lang.reflect.Field;
import java.lang.reflect.Method;
import java.lang.reflect.Modifier;
import java.util.Set;
import java.util.TreeSet;

/** Promise 1, promise 26 on a new object, and that the face is the document's and no more. */
public final class NewObjectTest {
    private static final Set<String> FACE = Set.of("int actor(int,int,int,boolean)", "boolean plays(int,int,int)",
            "boolean comes(int,boolean)", "int play(int,int,int,int)", "int role(int,int,int,boolean)",
            "boolean does(int,int,int)", "boolean doubles(int,int,int)", "int can(int,int,int)", "int fit(int)", "int anew()",
            "int hand(int)", "int playable()", "int week(int)", "int order(int)", "int fill(int)", "int fact(int,int,int)",
            "int where(int,int,int) throws java.util.NoSuchElementException", "int held(int,int)",
            "int feed(int,int,int,int,int)", "int end(int)", "int terms()", "int may(int,int)", "int broken(int)",
            "int about(int,int,int) throws java.util.NoSuchElementException", "int count(int)");

    public static void main(String[] args) {
        Check.sentence("1: no ACTORS", NewObjectTest::noActors);
        Check.sentence("1: no PLAYS", NewObjectTest::noPlays);
        Check.sentence("1: no FACTS", NewObjectTest::noFacts);
        Check.sentence("1: no TERMS", NewObjectTest::noTerms);
        Check.sentence("1: no CAST AT HAND", NewObjectTest::noCast);
        Check.sentence("14: no WEEK AT HAND before the first", NewObjectTest::noWeek);
        Check.sentence("1: an empty TAPE", NewObjectTest::emptyTape);
        Check.sentence("26: of a new object", NewObjectTest::countsOfANewOne);
        Check.sentence("1: a new object beside others", NewObjectTest::objectsAreApart);
        Check.sentence("the public face", NewObjectTest::faceIsTheDocuments);
        Check.finish();
    }

    private static void noActors() {
        PlayCompany x = new PlayCompany();
        Check.due("count(0)", x.count(0), 0);
        Check.due("count(7)", x.count(7), 0);
        Check.due("plays(0, 0, 1)", x.plays(0, 0, 1), false);
        Check.due("comes(0, true)", x.comes(0, true), false);
        Check.due("may(0, 0)", x.may(0, 0), -1);
        Check.dueNoAbout(x, 0, 0, 0);
        Check.due("the first one", x.actor(1, 0, 0, false), 0);
    }

    private static void noPlays() {
        PlayCompany x = new PlayCompany();
        Check.due("count(1)", x.count(1), 0);
        Check.due("role(0, 0, 1, false)", x.role(0, 0, 1, false), -1);
        Check.due("does(0, 0, 0)", x.does(0, 0, 0), false);
        Check.due("doubles(0, 0, 1)", x.doubles(0, 0, 1), false);
        Check.due("can(0, 0, 0)", x.can(0, 0, 0), -1);
        Check.due("fit(0)", x.fit(0), -2);
        Check.due("playable()", x.playable(), 0);
        Check.due("fill(1000)", x.fill(1000), 0);
        Check.due("week(1)", x.week(1), -1);
        Check.due("the first one", x.play(1, 0, 0, 0), 0);
    }

    private static void noFacts() {
        PlayCompany x = new PlayCompany();
        Check.due("count(2)", x.count(2), 0);
        for (int holder = -3; holder <= 12; holder++) {
            Check.due("held(" + holder + ", 0)", x.held(holder, 0), 0);
        }
        Check.dueWhere(x, 0, 0, 0, -3);
        Check.dueNoWhere(x, 0, 0, 1);
        Check.due("the first one", x.fact(0, 0, 0), 0);
    }

    private static void noTerms() {
        PlayCompany x = new PlayCompany();
        Check.due("count(3)", x.count(3), 0);
        x.actor(1, 0, 0, false);
        x.play(1, 0, 0, 0);
        x.fit(0);
        Check.due("may(0, 0)", x.may(0, 0), 1);
        Check.due("broken(0)", x.broken(0), -1);
        Check.dueAbout(x, 0, 0, 7, 0);
    }

    private static void noCast() {
        PlayCompany x = new PlayCompany();
        Check.due("count(4)", x.count(4), -1);
        Check.due("anew()", x.anew(), -2);
        Check.due("broken(0)", x.broken(0), -2);
        for (int role = -1; role <= 8; role++) {
            Check.due("hand(" + role + ")", x.hand(role), -1);
        }
        x.actor(1, 0, 0, false);
        Check.dueAbout(x, 0, 0, 6, 0);
    }

    private static void noWeek() {
        PlayCompany x = new PlayCompany();
        Check.due("count(5)", x.count(5), 0);
        for (int i = -1; i <= 8; i++) {
            Check.due("order(" + i + ")", x.order(i), -1);
        }
    }

    private static void emptyTape() {
        PlayCompany x = new PlayCompany();
        Check.due("count(6)", x.count(6), 0);
        Check.due("end(1)", x.end(1), -1);
        Check.due("terms()", x.terms(), 0);
        Check.due("the first bytes", x.feed(0, 0, 0, 0, 0), 20);
    }

    private static void countsOfANewOne() {
        PlayCompany x = new PlayCompany();
        int[] counts = {0, 0, 0, 0, -1, 0, 0, 0};
        for (int what = 0; what < counts.length; what++) {
            Check.due("count(" + what + ")", x.count(what), counts[what]);
        }
    }

    private static void objectsAreApart() {
        String empty = Check.stateOf(new PlayCompany());
        PlayCompany x = new PlayCompany();
        PlayCompany y = new PlayCompany();
        x.actor(1, 0, 0, false);
        x.plays(0, 0, 1);
        x.play(1, 1, 0, 7);
        x.role(0, 0, 1, true);
        x.fit(0);
        x.week(1);
        x.fact(0, 0, 0);
        Check.dueTerms(x, "pay 3 if fee >= 1; least 2 if fee >= 1;", 0);
        x.feed(0, 0, 0, 0, 0);
        Check.dueState(y, empty);
        Check.dueState(new PlayCompany(), empty);
        String full = Check.stateOf(x);
        y.actor(2, 9, 9, true);
        y.play(2, 2, 2, 2);
        y.fit(0);
        y.week(1);
        y.fact(0, 0, 5);
        Check.dueTerms(y, "may if guest;", 0);
        Check.dueState(x, full);
    }

    private static void faceIsTheDocuments() {
        Check.due("NONE", PlayCompany.NONE, -1);
        Set<String> seen = new TreeSet<>();
        Set<String> names = new TreeSet<>();
        for (Method method : PlayCompany.class.getDeclaredMethods()) {
            if (Modifier.isPublic(method.getModifiers())) {
                seen.add(method.toString().replace("public ", "").replace("PlayCompany.", ""));
                names.add(method.getName());
            }
        }
        Check.due("the face is the document's: " + seen, seen.equals(FACE), true);
        for (Method method : PlayCompany.class.getDeclaredMethods()) {
            if (!Modifier.isPublic(method.getModifiers())) {
                Check.due(method.getName() + " is private", Modifier.isPrivate(method.getModifiers()), true);
                Check.due(method.getName() + " bears a name of the face", names.contains(method.getName()), false);
            }
        }
        for (Field field : PlayCompany.class.getDeclaredFields()) {
            Check.due("the field " + field.getName() + " is private", Modifier.isPrivate(field.getModifiers()), !field.getName().equals("NONE"));
        }
        Constructor<?>[] constructors = PlayCompany.class.getDeclaredConstructors();
        Check.due("constructors", constructors.length, 1);
        Check.due("the constructor is public", Modifier.isPublic(constructors[0].getModifiers()), true);
        Check.due("parameters of the constructor", constructors[0].getParameterCount(), 0);
        Check.due("the class is final", Modifier.isFinal(PlayCompany.class.getModifiers()), true);
        for (Class<?> inside : PlayCompany.class.getDeclaredClasses()) {
            Check.due("the class " + inside.getName() + " is private", Modifier.isPrivate(inside.getModifiers()), true);
        }
    }
}
