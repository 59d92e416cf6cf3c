import java.util.NoSuchElementException;

/** Whatever the numbers, and whatever the state: where and about throw what the document names, and nothing else throws. */
public final class AnyNumbersTest {
    private static final int[] ODD = {Integer.MIN_VALUE, Integer.MIN_VALUE + 1, -100001, -100000, -33, -32, -31, -12, -3, -2, -1,
        0, 1, 2, 7, 8, 9, 11, 12, 13, 19, 20, 30, 31, 32, 33, 63, 64, 100, 101, 200, 201, 240, 241, 255, 256, 800, 801, 1000, 1001,
        4095, 4096, 65535, 65536, 100000, 100001, Integer.MAX_VALUE - 1, Integer.MAX_VALUE};
    private static final int MOST_CALLS = 512;

    private static PlayCompany x;
    private static int calls;
    private static int shape;

    public static void main(String[] args) {
        for (shape = 0; shape < 3; shape++) {
            Check.sentence("2, 5, 10 to 26: one number, in state " + shape, AnyNumbersTest::oneNumber);
            Check.sentence("2 to 26: two numbers, in state " + shape, AnyNumbersTest::twoNumbers);
            Check.sentence("20 to 22: bytes, in state " + shape, AnyNumbersTest::bytes);
        }
        Check.finish();
    }

    /** A new object before the former one has had its calls. */
    private static void ready(int room) {
        calls += room;
        if (x == null || calls > MOST_CALLS) {
            x = make();
            calls = 200 + room;
        }
    }

    /** New, with something, or full. */
    private static PlayCompany make() {
        PlayCompany made = new PlayCompany();
        int all = shape == 0 ? 0 : shape == 1 ? 3 : 12;
        for (int i = 0; i < all; i++) {
            made.actor(1 + i, -i, i, i % 2 == 0);
            made.plays(i, i % 4, 1 + i % 9);
            made.play(1 + 20 * i, i, i, i);
        }
        for (int i = 0; i < all && i < 8; i++) {
            made.role(0, i % 4, 1, false);
            made.role(1, i % 4, 5, i < 3);
        }
        made.doubles(0, 0, 1);
        made.doubles(0, 2, 1);
        made.week(all < 8 ? (1 << all) - 1 : 0xFF);
        made.fit(0);
        for (int i = 0; i < 3 * all; i++) {
            made.fact(i % 20, i, i % 14 - 2);
        }
        if (shape > 0) {
            Check.feedText(made, "may if age<5or not(guest and fee>=3);most 2if roles<1;least 1if grade>=2;pay 9if years<9;");
            made.terms();
            Check.feedText(made, "may if guest;");
        }
        return made;
    }

    private static void oneNumber() {
        x = null;
        for (int a : ODD) {
            ready(30);
            x.actor(a, a, a, true);
            x.plays(a, a, a);
            x.comes(a, true);
            x.play(a, a, a, a);
            x.role(a, a, a, false);
            x.does(a, a, a);
            x.doubles(a, a, a);
            x.can(a, a, a);
            x.fit(a);
            x.anew();
            x.hand(a);
            x.playable();
            x.week(a);
            x.order(a);
            x.fill(a);
            x.fact(a, a, a);
            x.held(a, a);
            x.may(a, a);
            x.broken(a);
            x.count(a);
            x.feed(a, a, a, a, a);
            x.end(a);
            x.terms();
            where(a, a, a);
            about(a, a, a);
        }
    }

    private static void twoNumbers() {
        x = null;
        for (int a : ODD) {
            for (int b : ODD) {
                ready(20);
                x.plays(a, b, 1);
                x.plays(0, a, b);
                x.role(a, b, 1, false);
                x.does(a, b, 0);
                x.does(0, a, b);
                x.doubles(a, b, 0);
                x.doubles(0, a, b);
                x.can(a, b, 0);
                x.can(0, a, b);
                x.fact(a, 0, b);
                x.fact(a, b, 0);
                x.held(a, b);
                x.may(a, b);
                where(a, b, 0);
                where(0, a, b);
                about(a, b, 7);
                about(0, a, b);
            }
        }
    }

    private static void bytes() {
        x = null;
        for (int a = 0; a < 256; a++) {
            ready(10);
            x.end(0);
            Check.feedText(x, "pay 5 if age" + (char) a + "< 3;");
            x.terms();
            x.feed(a << 24, a << 16, a << 8, a, ~a);
            x.terms();
            x.broken(a);
            x.may(0, a);
        }
    }

    private static void where(int item, int day, int n) {
        boolean due = item < 0 || item > 19 || n < 0 || n > x.count(2);
        boolean threw = false;
        try {
            x.where(item, day, n);
        } catch (NoSuchElementException e) {
            threw = true;
        }
        Check.due("where(" + item + ", " + day + ", " + n + ") throws", threw, due);
    }

    private static void about(int actor, int day, int what) {
        boolean due = actor < 0 || actor >= x.count(0) || what < 0 || what > 7;
        boolean threw = false;
        try {
            x.about(actor, day, what);
        } catch (NoSuchElementException e) {
            threw = true;
        }
        Check.due("about(" + actor + ", " + day + ", " + what + ") throws", threw, due);
    }
}
