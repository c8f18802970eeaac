/** Promises 17 to 20: BEHIND, DOOR, MILE, WINDOW. */
final class ComesTest {
    private ComesTest() {
    }

    public static void main(String[] args) {
        behindDays();
        doors();
        doorsOfSeveral();
        miles();
        windowsToShut();
        Check.end("ComesTest");
    }

    private static void behindDays() {
        StraightWhenAlone x = Check.laid("n5;p2,40;w0,0;t2,60;d2,0,0;d3,0,0;f3,3;");
        int[] yards = {40, 39, 38, 39, 39, 38};
        for (int n = 0; n < yards.length; n++) {
            Check.due("behind(" + n + ", 2)", x.behind(n, 2), yards[n]);
            Check.due("behind(" + n + ", -1)", x.behind(n, -1), 40 + 2 * (yards[n] - 30));
            Check.due("behind(" + n + ", 4)", x.behind(n, 4), 30);
        }
        Check.due("nothing went by", x.count(3), 0);
        Check.due("nothing can be undone", x.count(7), 0);
        x.walk(0, 0);
        Check.due("walked today", x.behind(1, 2), 41);
        Check.due("walked today, not tomorrow", x.behind(2, 2), 40);
        x.pass(2);
        Check.due("from now on", x.behind(1, 2), 41);
        x.shut(0, true);
        Check.due("shut", x.behind(1, 2), 40);
        Check.due("behind(40, 2)", x.behind(40, 2), 30);
        Check.due("behind(41, 2)", x.behind(41, 2), Check.BAD);
        Check.due("behind(-1, 2)", x.behind(-1, 2), Check.BAD);
        Check.due("behind(0, 5)", x.behind(0, 5), Check.BAD);
        Check.due("behind(0, -2)", x.behind(0, -2), Check.BAD);
    }

    private static void doors() {
        StraightWhenAlone x = Check.laid("n5;w0,0;t2,60;t2,0;f0,9;");
        int[] many = {0, 1, 2, 3};
        for (int k = 0; k < many.length; k++) {
            Check.due("up by " + k, x.door(2, 30 + k, 0), many[k]);
            Check.due("down by " + k, x.door(2, 30 - k, 0), many[k]);
        }
        Check.due("up by 4", x.door(2, 34, 0), Check.NONE);
        Check.due("up by 4, first", x.door(2, 34, 1), Check.NONE);
        Check.due("down by 2, first", x.door(2, 28, 1), 1);
        Check.due("down by 2, second", x.door(2, 28, 2), 1);
        Check.due("down by 2, third", x.door(2, 28, 3), Check.NONE);
        Check.due("there already, first", x.door(2, 30, 1), Check.NONE);
        Check.due("another post", x.door(1, 31, 0), Check.NONE);
        Check.due("a well", x.door(4, 30, 0), 0);
        Check.due("a well elsewhere", x.door(4, 29, 0), Check.NONE);
        x.shut(0, true);
        Check.due("shut", x.door(2, 31, 0), Check.NONE);
        Check.due("nothing walked", x.count(10), 0);
        Check.due("door(5, 0, 0)", x.door(5, 0, 0), Check.BAD);
        Check.due("door(-1, 0, 0)", x.door(-1, 0, 0), Check.BAD);
        Check.due("door(2, 61, 0)", x.door(2, 61, 0), Check.BAD);
        Check.due("door(2, -1, 0)", x.door(2, -1, 0), Check.BAD);
        Check.due("door(2, 30, 4)", x.door(2, 30, 4), Check.BAD);
        Check.due("door(2, 30, -1)", x.door(2, 30, -1), Check.BAD);
    }

    private static void doorsOfSeveral() {
        // looking back bends post 2 by as much as post 1 is apart from it: 1 first, then up to 3
        StraightWhenAlone x = Check.laid("n5;w0,0;w4,0;t2,60;t1,0;");
        Check.due("by two", x.door(2, 32, 0), 2);
        Check.due("the first of the first row", x.door(2, 32, 1), 0);
        Check.due("the second of the first row", x.door(2, 32, 2), 0);
        Check.due("by three", x.door(2, 33, 0), 3);
        Check.due("1st", x.door(2, 33, 1), 0);
        Check.due("2nd", x.door(2, 33, 2), 0);
        Check.due("3rd", x.door(2, 33, 3), 0);
        Check.due("by four, looking back", x.door(2, 34, 0), 3);
        Check.due("1st", x.door(2, 34, 1), 0);
        Check.due("2nd", x.door(2, 34, 2), 0);
        Check.due("3rd", x.door(2, 34, 3), 10);
        Check.due("by five", x.door(2, 35, 0), Check.NONE);
        StraightWhenAlone none = Check.laid("n5;t2,60;");
        Check.due("without walkers, there", none.door(2, 30, 0), 0);
        Check.due("without walkers", none.door(2, 31, 0), Check.NONE);
    }

    private static void miles() {
        StraightWhenAlone x = Check.laid("n5;w0,0;w0,1;t2,60;f0,9;");
        Check.due("as long as it is", x.mile(40), 0);
        Check.due("less", x.mile(0), 0);
        Check.due("a yard more", x.mile(41), 1);
        Check.due("two more", x.mile(42), 1);
        Check.due("three more", x.mile(43), 2);
        Check.due("six more", x.mile(46), 3);
        Check.due("seven more", x.mile(47), Check.NONE);
        Check.due("mile(999)", x.mile(999), Check.NONE);
        Check.due("mile(1000)", x.mile(1000), Check.BAD);
        Check.due("mile(-1)", x.mile(-1), Check.BAD);
        x.shut(0, true);
        Check.due("shut", x.mile(41), Check.NONE);
        Check.due("shut, as long as it is", x.mile(40), 0);
        // post 2 goes 3 down by each walk, away from those beside it
        StraightWhenAlone y = Check.laid("n5;p1,40;p3,40;w4,0;t2,10;");
        Check.due("long", y.length(), 80);
        Check.due("by 3 at both sides", y.mile(86), 1);
        Check.due("a yard more", y.mile(87), 2);
        Check.due("by nine at both sides", y.mile(98), 3);
        Check.due("beyond", y.mile(99), Check.NONE);
    }

    private static void windowsToShut() {
        StraightWhenAlone x = Check.laid("n5;w0,0;t1,60;t2,60;t3,60;d0,0,0;d0,0,1;d1,0,2;f1,1;");
        // behind a day: 31 31 30 and 42 long; either one shut: 42, too
        Check.due("no less than so", x.window(1, 0), Check.NONE);
        StraightWhenAlone y = Check.laid("n6;w0,0;t1,60;t3,60;t4,30;d0,0,0;d0,0,1;d1,0,0;");
        // behind a day: 31 30 31 30 and 54 long; either one shut: 52
        Check.due("of several the lowest", y.window(1, 0), 0);
        Check.due("as long", y.window(1, 1), 52);
        Check.due("behind two days", y.window(2, 0), 0);
        Check.due("as long", y.window(2, 1), 52);
        y.shut(0, true);
        Check.due("the other, with that one shut", y.window(1, 0), 1);
        Check.due("as long", y.window(1, 1), 50);
        y.shut(1, true);
        Check.due("none would help", y.window(1, 0), Check.NONE);
        Check.due("none would help, as long", y.window(1, 1), Check.NONE);
        Check.due("window(0, 0)", y.window(0, 0), Check.BAD);
        Check.due("window(20, 0)", y.window(20, 0), Check.NONE);
        Check.due("window(21, 0)", y.window(21, 0), Check.BAD);
        Check.due("window(1, 2)", y.window(1, 2), Check.BAD);
        Check.due("window(1, -1)", y.window(1, -1), Check.BAD);
        Check.due("windows stay", y.count(4), 2);
        StraightWhenAlone none = Check.laid("n5;");
        Check.due("no things", none.window(1, 0), Check.NONE);
    }
}
