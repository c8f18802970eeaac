/** What the tests share: a road told by a text, a count of wrong answers, the exit code. */
final class Check {
    static final int BAD = -1, NO = -2, FULL = -3, NONE = -4;

    private static int wrong = 0;
    private static int asked = 0;

    private Check() {
    }

    static void due(String call, int got, int want) {
        asked++;
        if (got != want) {
            wrong++;
            System.out.println(call + " answered " + got + ", due is " + want);
        }
    }

    static void that(String what, boolean holds) {
        due(what, holds ? 1 : 0, 1);
    }

    static void writeAll(StraightWhenAlone x, String text) {
        for (char letter : text.toCharArray()) {
            x.write(letter);
        }
    }

    static StraightWhenAlone laid(String text) {
        StraightWhenAlone x = new StraightWhenAlone();
        writeAll(x, text);
        that("lay of " + text, x.lay() > 0);
        return x;
    }

    static void faultDue(String text, int want) {
        StraightWhenAlone x = new StraightWhenAlone();
        writeAll(x, text);
        due("fault of '" + text + "'", x.fault(), want);
        if (want != NONE) {
            due("lay of '" + text + "'", x.lay(), NO);
        }
    }

    static void postsDue(String when, StraightWhenAlone x, int... yards) {
        for (int i = 0; i < yards.length; i++) {
            due(when + ": post(" + i + ")", x.post(i), yards[i]);
        }
        due(when + ": posts", x.count(0), yards.length);
    }

    static void end(String test) {
        System.out.println(test + ": " + (asked - wrong) + " of " + asked + " answers as due");
        if (wrong != 0) {
            System.exit(1);
        }
    }
}
