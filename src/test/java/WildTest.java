/**
 * Every call with every mixture of wild numbers, wherever an object may stand: none throws but
 * history, and that by a throw of its own, not by the machine's.
 */
public final class WildTest {
    private static final int[] WILD = {
        Integer.MIN_VALUE, -1000010, -1000009, -1000003, -2, -1, 0, 1, 3, 4, 5, 6, 9, 10, 15, 16, 17,
        30, 31, 63, 64, 65, 100, 101, 1 << 16, 1 << 31 >>> 1, Integer.MAX_VALUE
    };

    private static final Due due = new Due();

    private static int asked = 0;
    private static ResampledRows x;
    private static Scene scene;

    public static void main(String[] args) {
        for (Scene each : Scene.values()) {
            scene = each;
            x = each.make();
            for (int a : WILD) {
                callsOfOne(a);
                for (int b : WILD) {
                    callsOfTwo(a, b);
                    for (int c : WILD) {
                        callsOfThree(a, b, c);
                    }
                }
            }
        }
        due.end();
    }

    /** A new object comes before the 512th call of the one before it. */
    private static ResampledRows next() {
        asked++;
        if (asked % 300 == 0) {
            x = scene.make();
        }
        return x;
    }

    private static void callsOfOne(int a) {
        try {
            next().force(a);
            next().begin(a, a);
            next().keep(a);
            next().again(a);
            next().from(a);
            next().weight(a);
            next().told(a);
            next().count(a);
            next().evidence();
            if (a == 0) {
                next().clear();
            }
        } catch (RuntimeException e) {
            due.say(scene + " with " + a + ": " + e);
        }
        x = scene.make();
    }

    private static void callsOfTwo(int a, int b) {
        try {
            next().start(a, b);
            next().named(a, b);
            next().step(a, b);
            next().rule(a, b);
            next().row(a, b);
        } catch (RuntimeException e) {
            due.say(scene + " with " + a + ", " + b + ": " + e);
        }
        try {
            next().history(a, b);
        } catch (ArrayIndexOutOfBoundsException e) {
            due.isText("its own throw", e.getStackTrace()[0].getMethodName() + ": " + e.getMessage(), "history: there is no such place");
        }
    }

    private static void callsOfThree(int a, int b, int c) {
        try {
            next().move(a, b, c);
            next().seen(a, b, c);
            next().write(a, b, c);
        } catch (RuntimeException e) {
            due.say(scene + " with " + a + ", " + b + ", " + c + ": " + e);
        }
    }
}
