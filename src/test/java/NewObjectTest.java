import java.lang.reflect.Constructor;
import java.lang.reflect.Field;
import java.lang.reflect.Method;
import java.lang.reflect.Modifier;
import java.util.Set;
import java.util.TreeSet;

/** Promise 1, promise 26 on a new object, and that the face is the document's and no more. */
public final class NewObjectTest {
    private static final Set<String> FACE = Set.of("actor", "plays", "comes", "play", "role", "does", "doubles", "can",
            "fit", "anew", "hand", "playable", "week", "order", "fill", "fact", "where", "held", "feed", "end", "terms",
            "may", "broken", "about", "count");

    public static void main(String[] args) {
        nothingThere();
        objectsAreApart();
        faceIsTheDocuments();
        Check.finish();
    }

    private static void nothingThere() {
        PlayCompany x = new PlayCompany();
        int[] counts = {0, 0, 0, 0, -1, 0, 0, 0};
        for (int what = 0; what < counts.length; what++) {
            Check.due("count(" + what + ")", x.count(what), counts[what]);
        }
        Check.due("fit(0)", x.fit(0), -2);
        Check.due("anew()", x.anew(), -2);
        Check.due("broken(0)", x.broken(0), -2);
        Check.due("playable()", x.playable(), 0);
        Check.due("fill(1000)", x.fill(1000), 0);
        Check.due("week(1)", x.week(1), -1);
        Check.due("order(0)", x.order(0), -1);
        Check.due("may(0, 0)", x.may(0, 0), -1);
        Check.due("can(0, 0, 0)", x.can(0, 0, 0), -1);
        Check.due("held(-1, 0)", x.held(-1, 0), 0);
        Check.due("terms()", x.terms(), 0);
        for (int role = -1; role <= 8; role++) {
            Check.due("hand(" + role + ")", x.hand(role), -1);
        }
        Check.dueNoAbout(x, 0, 0, 0);
        Check.dueWhere(x, 0, 0, 0, -3);
    }

    private static void objectsAreApart() {
        PlayCompany x = new PlayCompany();
        PlayCompany y = new PlayCompany();
        x.actor(1, 0, 0, false);
        x.play(1, 0, 0, 0);
        x.fact(0, 0, 0);
        x.feed(0, 0, 0, 0, 0);
        for (int what : new int[] {0, 1, 2, 6}) {
            Check.due("count(" + what + ") of another object", y.count(what), 0);
        }
    }

    private static void faceIsTheDocuments() {
        Check.due("NONE", PlayCompany.NONE, -1);
        Set<String> seen = new TreeSet<>();
        for (Method method : PlayCompany.class.getDeclaredMethods()) {
            boolean isPublic = Modifier.isPublic(method.getModifiers());
            Check.due("the face has " + method.getName(), isPublic, FACE.contains(method.getName()));
            Check.due(method.getName() + " is public or private", isPublic || Modifier.isPrivate(method.getModifiers()), true);
            if (isPublic) {
                Check.due("one " + method.getName(), seen.add(method.getName()), true);
            }
        }
        Check.due("methods of the face", seen.size(), FACE.size());
        for (Field field : PlayCompany.class.getDeclaredFields()) {
            Check.due("the field " + field.getName() + " is private", Modifier.isPrivate(field.getModifiers()), !field.getName().equals("NONE"));
        }
        Constructor<?>[] constructors = PlayCompany.class.getDeclaredConstructors();
        Check.due("constructors", constructors.length, 1);
        Check.due("the class is final", Modifier.isFinal(PlayCompany.class.getModifiers()), true);
        for (Class<?> inside : PlayCompany.class.getDeclaredClasses()) {
            Check.due("the class " + inside.getName() + " is private", Modifier.isPrivate(inside.getModifiers()), true);
        }
    }
}
