import java.util.function.IntUnaryOperator;

/** What the tests share: a road told by a text, a count of wrong answers, the exit code. */
final class Check {
    static final int BAD = -1, NO = -2, FULL = -3, NONE = -4;

    private static int wrong = 0;
    private static int asked = 0;

    private Check() {
    }

    static void due(String call, int got, int want) {
        asked++;
        if (got != want) {
            wrong++;
            System.out.println(call + " answered " + got + ", due is " + want);
        }
    }

    static void that(String what, boolean holds) {
        due(what, holds ? 1 : 0, 1);
    }

    static void writeAll(StraightWhenAlone x, String text) {
        for (char letter : text.toCharArray()) {
            x.write(letter);
        }
    }

    static StraightWhenAlone laid(String text) {
        StraightWhenAlone x = new StraightWhenAlone();
        writeAll(x, text);
        that("lay of " + text, x.lay() > 0);
        return x;
    }

    static void faultDue(String text, int want) {
        StraightWhenAlone x = new StraightWhenAlone();
        writeAll(x, text);
        due("fault of '" + text + "'", x.fault(), want);
        if (want != NONE) {
            due("lay of '" + text + "'", x.lay(), NO);
            due("the first road stays, by '" + text + "'", x.post(4) * 100 + x.count(1) * 10 + x.count(2), 3633);
        } else if (!text.isEmpty()) {
            that("lay of '" + text + "'", x.lay() > 0);
        }
    }

    /** A number of a call: low and high are the last ones that are taken, all beyond them are BAD. */
    static void edges(String call, int low, int high, IntUnaryOperator answer) {
        that(call + " takes " + low, answer.applyAsInt(low) != BAD);
        that(call + " takes " + high, answer.applyAsInt(high) != BAD);
        due(call + " of " + (low - 1), answer.applyAsInt(low - 1), BAD);
        due(call + " of " + (high + 1), answer.applyAsInt(high + 1), BAD);
        due(call + " of the least", answer.applyAsInt(Integer.MIN_VALUE), BAD);
        due(call + " of the greatest", answer.applyAsInt(Integer.MAX_VALUE), BAD);
    }

    static void postsDue(String when, StraightWhenAlone x, int... yards) {
        for (int i = 0; i < yards.length; i++) {
            due(when + ": post(" + i + ")", x.post(i), yards[i]);
        }
        due(when + ": posts", x.count(0), yards.length);
    }

    static void end(String test) {
        System.out.println(test + ": " + (asked - wrong) + " of " + asked + " answers as due");
        if (wrong != 0) {
            System.exit(1);
        }
    }
}
