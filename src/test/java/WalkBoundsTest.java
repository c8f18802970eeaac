/** Section 2 of the document, sentence by sentence: each bound of WALKS, DAYS, WINDOWS, UNDONE, on both its sides. */
final class WalkBoundsTest {
    private WalkBoundsTest() {
    }

    public static void main(String[] args) {
        postsAtMostRAway();
        wellsAreNotBent();
        towardTheThingIfItIsNotThere();
        blinkeredBendsJustThePostOfTheThing();
        sheepNotBelow0NorAbove60();
        sheepByOddAndEven();
        blindTowardThirty();
        lookingBackThreeAtMost();
        lookingBackNeverBeyond();
        lookingBackAtThePostBeforeIt();
        nothingBendsIfShut();
        fogBendsNothing();
        oneNight();
        whoWalksOnADay();
        toldWalksInTheirOrder();
        oneToTwentyDays();
        daysGoRound();
        anyDayFrom0To199();
        walkersAndThingsThatThereAre();
        windowsShutAndOpened();
        allWindowsShut();
        theLastEightCanBeUndone();
        daysAreUndoneAsOne();
        Check.end("WalkBoundsTest");
    }

    /** A road of 16 posts of which all that are no wells lie far from one another: up, down, up, .. */
    private static String zigzag() {
        StringBuilder text = new StringBuilder("n16;");
        for (int i = 1; i <= 14; i++) {
            text.append('p').append(i).append(i % 2 == 1 ? ",60;" : ",0;");
        }
        return text.toString();
    }

    private static void postsAtMostRAway() {
        for (int reach = 0; reach <= 9; reach++) {
            for (int at : new int[] {0, 1, 7, 8, 14, 15}) {
                for (int kind = 0; kind <= 4; kind++) {
                    reachDue(kind, reach, at);
                }
            }
        }
    }

    private static void reachDue(int kind, int reach, int at) {
        StraightWhenAlone x = Check.laid(zigzag() + "w" + kind + "," + reach + ";t" + at + ",30;");
        int all = x.walk(0, 0);
        int due = 0;
        for (int i = 0; i < 16; i++) {
            int start = i == 0 || i == 15 ? 30 : i % 2 == 1 ? 60 : 0;
            boolean bends = i >= 1 && i <= 14 && Math.abs(i - at) <= (kind == 1 ? 0 : reach);
            int by = !bends ? 0 : kind == 4 ? 3 : 1;
            int yard = start > 30 ? start - by : start + by;
            if (kind == 2 && i % 2 == 0) {
                // away from 30 it would be below 0
                yard = start;
            }
            due += Math.abs(yard - start);
            Check.due("kind " + kind + ", reach " + reach + ", thing at " + at + ", post " + i, x.post(i), yard);
        }
        Check.due("kind " + kind + ", reach " + reach + ", thing at " + at + ", all", all, due);
    }

    private static void wellsAreNotBent() {
        for (int kind = 0; kind <= 4; kind++) {
            for (int yard : new int[] {0, 29, 30, 31, 60}) {
                StraightWhenAlone x = Check.laid("n5;p1,40;p3,20;w" + kind + ",9;t0," + yard + ";t4," + yard + ";");
                x.walk(0, 0);
                x.walk(0, 1);
                x.pass(1);
                Check.due("the first well", x.post(0), 30);
                Check.due("the last well", x.post(4), 30);
            }
            StraightWhenAlone y = Check.laid("n5;p1,40;p3,20;w" + kind + ",0;t0,60;t4,0;");
            Check.due("no post within reach of the first well", y.walk(0, 0), 0);
            Check.due("no post within reach of the last well", y.walk(0, 1), 0);
            Check.postsDue("no post within reach", y, 30, 40, 30, 20, 30);
            Check.due("but it is walked", y.count(10), 1);
        }
    }

    private static void towardTheThingIfItIsNotThere() {
        int[] things = {0, 39, 40, 41, 60};
        int[] yards = {39, 39, 40, 41, 41};
        for (int kind = 0; kind <= 1; kind++) {
            for (int k = 0; k < things.length; k++) {
                StraightWhenAlone x = Check.laid("n5;p2,40;w" + kind + ",0;t2," + things[k] + ";");
                Check.due("to " + things[k] + " by", x.walk(0, 0), things[k] == 40 ? 0 : 1);
                Check.due("to " + things[k], x.post(2), yards[k]);
            }
        }
    }

    private static void blinkeredBendsJustThePostOfTheThing() {
        for (int at = 0; at <= 4; at++) {
            StraightWhenAlone x = Check.laid("n5;w1,9;t" + at + ",60;");
            Check.due("blinkered at " + at, x.walk(0, 0), at >= 1 && at <= 3 ? 1 : 0);
            for (int i = 0; i <= 4; i++) {
                Check.due("blinkered at " + at + ", post " + i, x.post(i), i == at && i >= 1 && i <= 3 ? 31 : 30);
            }
        }
    }

    private static void sheepNotBelow0NorAbove60() {
        int[] starts = {0, 0, 1, 1, 1, 2, 58, 59, 59, 59, 60, 60, 60};
        int[] things = {0, 1, 0, 1, 2, 3, 57, 58, 59, 60, 0, 59, 60};
        int[] yards = {1, 0, 2, 2, 0, 1, 59, 60, 60, 58, 60, 60, 60};
        for (int k = 0; k < starts.length; k++) {
            StraightWhenAlone x = Check.laid("n5;p2," + starts[k] + ";w2,0;t2," + things[k] + ";");
            String what = "sheep from " + starts[k] + " away from " + things[k];
            Check.due(what + " by", x.walk(0, 0), Math.abs(yards[k] - starts[k]));
            Check.due(what, x.post(2), yards[k]);
        }
    }

    private static void sheepByOddAndEven() {
        for (int i = 1; i <= 14; i++) {
            StraightWhenAlone x = Check.laid("n16;w2,0;t" + i + ",60;t" + i + ",0;t" + i + ",30;");
            x.walk(0, 0);
            Check.due("toward 60, post " + i, x.post(i), i % 2 == 1 ? 31 : 29);
            x.undo();
            x.walk(0, 1);
            Check.due("toward 0, post " + i, x.post(i), i % 2 == 1 ? 29 : 31);
            x.undo();
            x.walk(0, 2);
            Check.due("there already, post " + i, x.post(i), i % 2 == 1 ? 30 : 31);
        }
    }

    private static void blindTowardThirty() {
        int[] starts = {0, 28, 29, 30, 31, 32, 60};
        int[] yards = {1, 29, 30, 30, 30, 31, 59};
        for (int k = 0; k < starts.length; k++) {
            for (int yard : new int[] {0, 30, 60}) {
                StraightWhenAlone x = Check.laid("n5;p2," + starts[k] + ";w3,0;t2," + yard + ";");
                Check.due("blind by", x.walk(0, 0), starts[k] == 30 ? 0 : 1);
                Check.due("blind from " + starts[k], x.post(2), yards[k]);
            }
        }
    }

    private static void lookingBackThreeAtMost() {
        int[] by = {0, 1, 2, 3, 3, 3};
        for (int apart = 0; apart < by.length; apart++) {
            StraightWhenAlone x = Check.laid("n5;p1," + (30 + apart) + ";w4,0;t1,60;t1,0;");
            Check.due("above by " + apart + ", up", x.walk(0, 0), by[apart]);
            Check.due("above by " + apart + ", up", x.post(1), 30 + apart + by[apart]);
            x.undo();
            Check.due("above by " + apart + ", down", x.walk(0, 1), by[apart]);
            Check.due("above by " + apart + ", down", x.post(1), 30 + apart - by[apart]);
            StraightWhenAlone y = Check.laid("n5;p1," + (30 - apart) + ";w4,0;t1,60;");
            Check.due("below by " + apart + ", up", y.walk(0, 0), by[apart]);
            Check.due("below by " + apart + ", up", y.post(1), 30 - apart + by[apart]);
        }
    }

    private static void lookingBackNeverBeyond() {
        for (int off = -5; off <= 5; off++) {
            StraightWhenAlone x = Check.laid("n5;p1,40;w4,0;t1," + (40 + off) + ";");
            int by = Math.min(3, Math.abs(off));
            Check.due("a thing " + off + " off", x.walk(0, 0), by);
            Check.due("a thing " + off + " off", x.post(1), off < 0 ? 40 - by : 40 + by);
        }
    }

    private static void lookingBackAtThePostBeforeIt() {
        // 2 is where 1 was: it is bent by as much as 1 has gone, not by 0
        StraightWhenAlone x = Check.laid("n5;p1,32;p2,32;p3,50;w4,9;t2,60;");
        Check.due("all", x.walk(0, 0), 2 + 2 + 3);
        Check.postsDue("the lower one has gone already", x, 30, 34, 34, 53, 30);
        // 2 is a yard above 1, which comes up to it: it stays
        StraightWhenAlone y = Check.laid("n5;p1,31;p2,32;p3,32;w4,9;t2,60;");
        Check.due("all", y.walk(0, 0), 1);
        Check.postsDue("it has come up to the next", y, 30, 32, 32, 32, 30);
        // the lower one is out of reach and stays where it is
        StraightWhenAlone z = Check.laid("n5;p1,31;p2,33;w4,0;t2,60;");
        Check.due("by what it is apart from one out of reach", z.walk(0, 0), 2);
        Check.postsDue("just that one", z, 30, 31, 35, 30, 30);
    }

    private static void nothingBendsIfShut() {
        for (int kind = 0; kind <= 4; kind++) {
            StraightWhenAlone x = Check.laid("n5;p1,40;p2,20;p3,40;w" + kind + ",9;t2,60;t2,0;");
            x.shut(0, true);
            Check.due("shut", x.walk(0, 0), 0);
            Check.postsDue("shut", x, 30, 40, 20, 40, 30);
            Check.due("shut, but it is walked", x.count(10), 1);
            x.pass(1);
            Check.postsDue("shut, walked: no night", x, 30, 40, 20, 40, 30);
            x.undo();
            Check.that("the other one is open", x.walk(0, 1) > 0);
            x.shut(0, false);
            Check.that("opened again", x.walk(0, 0) > 0);
        }
    }

    private static void fogBendsNothing() {
        for (int kind = 0; kind <= 4; kind++) {
            StraightWhenAlone x = Check.laid("n5;p1,40;p2,20;p3,40;w" + kind + ",9;t2,60;d2,0,0;f1,2;");
            x.pass(1);
            Check.due("the first foggy day", x.walk(0, 0), 0);
            Check.due("it is walked", x.count(10), 1);
            x.pass(1);
            Check.postsDue("walked besides in fog: no night", x, 30, 39, 21, 39, 30);
            x.pass(1);
            Check.postsDue("told in fog: no night", x, 30, 39, 21, 39, 30);
            Check.that("the day behind the fog", x.walk(0, 0) > 0);
        }
        StraightWhenAlone y = Check.laid("n5;p2,40;w0,9;t2,60;f1,2;");
        Check.that("the day ahead of the fog", y.walk(0, 0) > 0);
        y.undo();
        y.pass(4);
        Check.due("nobody walks: it straightens in fog, too", y.post(2), 36);
    }

    private static void oneNight() {
        int[] starts = {0, 1, 28, 29, 30, 31, 32, 59, 60};
        int[] yards = {1, 2, 29, 30, 30, 30, 31, 58, 59};
        for (int k = 0; k < starts.length; k++) {
            StraightWhenAlone x = Check.laid("n5;p1," + starts[k] + ";p3," + starts[k] + ";");
            x.pass(1);
            Check.postsDue("a night from " + starts[k], x, 30, yards[k], 30, yards[k], 30);
        }
    }

    private static void whoWalksOnADay() {
        String road = "n6;p4,40;w0,0;t1,60;";
        Check.due("nobody", behindADay(Check.laid(road)), 39);
        Check.due("told", behindADay(Check.laid(road + "d0,0,0;")), 40);
        Check.due("told for another day", behindADay(Check.laid(road + "d1,0,0;d9,0,0;")), 39);
        StraightWhenAlone besides = Check.laid(road);
        besides.walk(0, 0);
        Check.due("besides", behindADay(besides), 40);
        Check.due("besides, the day ahead of it", behindADay(besides), 39);
        StraightWhenAlone both = Check.laid(road + "d0,0,0;");
        both.walk(0, 0);
        Check.due("both", behindADay(both), 40);
        Check.due("both: the thing's post", both.post(1), 32);
        StraightWhenAlone undone = Check.laid(road);
        undone.walk(0, 0);
        undone.undo();
        Check.due("besides, undone", behindADay(undone), 39);
    }

    private static int behindADay(StraightWhenAlone x) {
        x.pass(1);
        return x.post(4);
    }

    private static void toldWalksInTheirOrder() {
        // plain lifts, blind lowers again: which one is last can be seen
        Check.due("lifted last", behindTwoTold("d0,1,0;d0,0,0;"), 31);
        Check.due("lowered last", behindTwoTold("d0,0,0;d0,1,0;"), 30);
        Check.due("others between", behindTwoTold("d1,0,0;d0,1,0;d2,1,0;d0,0,0;"), 31);
        // told eight times
        StraightWhenAlone x = Check.laid("n5;w0,0;t2,60;" + "d0,0,0;".repeat(8));
        x.pass(1);
        Check.due("told eight times for one day", x.post(2), 38);
    }

    private static int behindTwoTold(String told) {
        StraightWhenAlone x = Check.laid("n5;w0,0;w3,0;t2,60;" + told);
        x.pass(1);
        return x.post(2);
    }

    private static void oneToTwentyDays() {
        Check.edges("pass", 1, 20, n -> new StraightWhenAlone().pass(n));
        StraightWhenAlone x = new StraightWhenAlone();
        StraightWhenAlone y = new StraightWhenAlone();
        Check.due("pass(20)", x.pass(20), 20);
        for (int k = 1; k <= 20; k++) {
            Check.due("pass(1)", y.pass(1), k);
        }
        for (int i = 0; i < 9; i++) {
            Check.due("twenty days, post " + i, x.post(i), y.post(i));
        }
        Check.due("pass(0)", x.pass(0), Check.BAD);
        Check.due("pass(21)", x.pass(21), Check.BAD);
        Check.due("days", x.count(3), 20);
        for (int k = 2; k <= 100; k++) {
            Check.due("days add up", x.pass(20), 20 * k);
        }
        Check.due("days behind 200 are counted on", x.count(3), 2000);
    }

    private static void daysGoRound() {
        StraightWhenAlone x = Check.laid("n5;w0,0;t2,60;d0,0,0;d9,0,0;f0,0;");
        x.pass(9);
        Check.due("ahead of day 9", x.post(2), 30);
        Check.due("day 9 has no fog", x.walk(0, 0), 1);
        x.undo();
        x.pass(1);
        Check.due("behind day 9", x.post(2), 31);
        Check.due("day 10 is day 0: fog", x.walk(0, 0), 0);
        x.undo();
        x.pass(1);
        Check.due("behind day 10: walked in fog, no night", x.post(2), 31);
        Check.due("day 11 has no fog", x.walk(0, 0), 1);
        x.undo();
        x.pass(1);
        Check.due("behind day 11: a night", x.post(2), 30);
        x.pass(7);
        Check.due("behind day 18", x.post(2), 30);
        x.pass(1);
        Check.due("behind day 19", x.post(2), 31);
        x.pass(20);
        Check.due("behind day 39", x.post(2), 31);
        Check.due("day 40 is day 0: fog", x.walk(0, 0), 0);
    }

    private static void anyDayFrom0To199() {
        StraightWhenAlone x = Check.laid("w0,0;t2,60;d0,0,0;d9,0,0;d9,0,0;f0,0;f8,8;");
        Check.edges("day", 0, 199, d -> x.day(d, 0));
        Check.edges("what of a day", 0, 1, what -> x.day(0, what));
        for (int d = 0; d <= 190; d += 10) {
            Check.due("day " + d, x.day(d, 0), 1);
            Check.due("day " + (d + 9), x.day(d + 9, 0), 2);
            Check.due("fog on day " + d, x.day(d, 1), 1);
            Check.due("fog on day " + (d + 8), x.day(d + 8, 1), 1);
            Check.due("fog on day " + (d + 9), x.day(d + 9, 1), 0);
        }
        x.pass(3);
        x.walk(0, 0);
        Check.due("a day is told for, not walked on", x.day(3, 0), 0);
        Check.due("days are not counted from now", x.day(0, 0), 1);
    }

    private static void walkersAndThingsThatThereAre() {
        StraightWhenAlone x = Check.laid("n5;w0,0;w1,0;t2,60;t3,60;t1,60;");
        Check.edges("walker of a walk", 0, 1, w -> x.walk(w, 0));
        Check.edges("thing of a walk", 0, 2, t -> x.walk(0, t));
        Check.due("only the taken ones can be undone", x.count(7), 4);
        Check.postsDue("only the taken ones bend", x, 30, 31, 33, 30, 30);
        StraightWhenAlone noThings = Check.laid("n5;w0,0;");
        Check.due("without things", noThings.walk(0, 0), Check.BAD);
        Check.due("without things it is not walked", noThings.count(10), 0);
        StraightWhenAlone noWalkers = Check.laid("n5;t1,60;");
        Check.due("without walkers", noWalkers.walk(0, 0), Check.BAD);
        Check.due("without walkers it is not walked", noWalkers.count(10), 0);
    }

    private static void windowsShutAndOpened() {
        StraightWhenAlone x = Check.laid("n5;t2,60;t3,60;");
        Check.edges("shut", 0, 1, t -> x.shut(t, true));
        Check.edges("open", 0, 1, t -> x.shut(t, false));
        Check.due("four can be undone", x.count(7), 4);
        Check.due("open what is open", x.shut(1, false), Check.NO);
        Check.due("shut it", x.shut(1, true), 1);
        Check.due("shut what is shut", x.shut(1, true), Check.NO);
        Check.due("five can be undone", x.count(7), 5);
        Check.due("a wrong number comes ahead of NO", x.shut(2, false), Check.BAD);
        Check.due("undo", x.undo(), 4);
        Check.due("it is open", x.thing(1, 2), 0);
        Check.due("without things", Check.laid("n5;").shut(0, true), Check.BAD);
    }

    private static void allWindowsShut() {
        StraightWhenAlone x = Check.laid("n5;" + "t2,60;".repeat(6));
        for (int t = 0; t < 6; t++) {
            Check.due("shut " + t, x.shut(t, true), t + 1);
            Check.due("it is shut", x.thing(t, 2), 1);
            Check.due("the next one is not", x.thing(t + 1, 2), t == 5 ? Check.BAD : 0);
        }
        Check.due("all are", x.count(4), 6);
        x.pass(20);
        Check.due("days leave windows", x.count(4), 6);
        for (int t = 0; t < 6; t++) {
            Check.due("open " + t, x.shut(t, false), 5 - t);
        }
        Check.due("none is", x.count(4), 0);
    }

    private static void theLastEightCanBeUndone() {
        StraightWhenAlone x = Check.laid("n5;w0,0;t2,60;");
        Check.due("nothing", x.undo(), Check.NO);
        for (int k = 1; k <= 8; k++) {
            x.walk(0, 0);
            Check.due("can be undone", x.count(7), k);
        }
        for (int k = 7; k >= 0; k--) {
            Check.due("undo", x.undo(), k);
        }
        Check.due("all eight are undone", x.post(2), 30);
        Check.due("and no more", x.undo(), Check.NO);
        for (int k = 1; k <= 9; k++) {
            x.walk(0, 0);
        }
        Check.due("nine done, eight can be undone", x.count(7), 8);
        for (int k = 7; k >= 0; k--) {
            Check.due("undo", x.undo(), k);
        }
        Check.due("the ninth stays", x.post(2), 31);
        Check.due("and no more", x.undo(), Check.NO);
        Check.due("it is walked by the ninth", x.count(10), 1);
    }

    private static void daysAreUndoneAsOne() {
        StraightWhenAlone x = Check.laid("n5;p2,60;w0,0;t2,60;");
        x.pass(20);
        x.pass(1);
        Check.due("two can be undone", x.count(7), 2);
        Check.due("undo a day", x.undo(), 1);
        Check.due("twenty days are left", x.count(3), 20);
        Check.due("undo twenty", x.undo(), 0);
        Check.due("no day is left", x.count(3), 0);
        Check.due("where it was", x.post(2), 60);
        x.pass(1);
        x.undo();
        Check.due("undone is not done again", x.undo(), Check.NO);
        // the last eight of all three
        x.walk(0, 0);
        x.pass(1);
        x.shut(0, true);
        for (int k = 0; k < 6; k++) {
            x.shut(0, k % 2 == 1);
        }
        Check.due("eight", x.count(7), 8);
        for (int k = 0; k < 8; k++) {
            x.undo();
        }
        Check.due("the walk is behind the last eight", x.count(10), 1);
        Check.due("no window is shut", x.count(4), 0);
        Check.due("the day is undone", x.count(3), 0);
    }
}
