/** Section 3 of the document, sentence by sentence: each bound of LONG to WINDOW, on both its sides. */
final class RoadBoundsTest {
    private RoadBoundsTest() {
    }

    public static void main(String[] args) {
        theLeastLongAndTheLongest();
        everyTwoOfPostsCountsForLong();
        crooksAreHigherOrLowerThanBoth();
        knotsAreFourApartOrMore();
        whatOfCrooks();
        milestonesFrom1To99();
        milestoneAtAPostAndAYardAheadOfIt();
        milestoneAtTheEndOfTheRoad();
        behind0To40Days();
        behindAnyPostOrTheLength();
        behindGoesRound();
        doorOf0To3Walks();
        doorOfAnyPostAndYard();
        doorOfAKthWalk();
        doorByTheFirstRow();
        doorInFogAndBehindShutWindows();
        doorWithoutWalkersOrThings();
        doorIsFromNowOn();
        mile0To999();
        mileOf0To3Walks();
        mileInFogAndBehindShutWindows();
        mileWithoutWalkersOrThings();
        window1To20();
        windowLessThanSo();
        windowTheLowestOfSeveral();
        windowOnlyOfThoseThatAreOpen();
        windowGoesRound();
        Check.end("RoadBoundsTest");
    }

    private static String zigzag() {
        StringBuilder text = new StringBuilder("n16;");
        for (int i = 1; i <= 14; i++) {
            text.append('p').append(i).append(i % 2 == 1 ? ",60;" : ",0;");
        }
        return text.toString();
    }

    private static void theLeastLongAndTheLongest() {
        for (int n = 5; n <= 16; n++) {
            Check.due("straight, " + n + " posts", Check.laid("n" + n + ";").length(), 10 * (n - 1));
        }
        Check.due("the longest", Check.laid(zigzag()).length(), 150 + 30 + 13 * 60 + 30);
    }

    private static void everyTwoOfPostsCountsForLong() {
        for (int i = 1; i <= 14; i++) {
            Check.due("up by one at " + i, Check.laid("n16;p" + i + ",31;").length(), 152);
            Check.due("down by one at " + i, Check.laid("n16;p" + i + ",29;").length(), 152);
        }
        Check.due("beside one another", Check.laid("n5;p1,31;p2,31;").length(), 42);
    }

    private static void crooksAreHigherOrLowerThanBoth() {
        // post 2 between posts 1 and 3, which are at 30
        int[] many = {1, 0, 1};
        for (int off = -1; off <= 1; off++) {
            Check.due("off by " + off, Check.laid("n5;p2," + (30 + off) + ";").crooks(0), many[off + 1]);
        }
        Check.due("as high as the one before it", Check.laid("n6;p2,31;p3,31;").crooks(0), 0);
        Check.due("as low as the one before it", Check.laid("n6;p2,29;p3,29;").crooks(0), 0);
        Check.due("a stair", Check.laid("n6;p1,31;p2,32;p3,33;p4,34;").crooks(0), 1);
        Check.due("at the first well", Check.laid("n6;p1,31;").crooks(0), 1);
        Check.due("at the last well", Check.laid("n6;p4,29;").crooks(0), 1);
        Check.due("wells are none: a hollow between them", Check.laid("n5;p1,20;p2,20;p3,20;").crooks(0), 0);
        Check.due("all of them", Check.laid(zigzag()).crooks(0), 14);
        Check.due("none of them", Check.laid("n16;").crooks(0), 0);
    }

    private static void knotsAreFourApartOrMore() {
        for (int apart = 0; apart <= 5; apart++) {
            int due = apart >= 4 ? 1 : 0;
            int up = 30 + apart;
            int down = 30 - apart;
            Check.due("first two, up " + apart, Check.laid("n5;p1," + up + ";p2," + up + ";p3," + up + ";").crooks(1), 2 * due);
            Check.due("first two, down " + apart,
                Check.laid("n5;p1," + down + ";p2," + down + ";p3," + down + ";").crooks(1), 2 * due);
            Check.due("in between, up " + apart, Check.laid("n5;p2," + up + ";").crooks(1), 2 * due);
            Check.due("in between, down " + apart, Check.laid("n5;p2," + down + ";").crooks(1), 2 * due);
        }
        Check.due("all of them", Check.laid(zigzag()).crooks(1), 15);
        Check.due("just the first two", Check.laid("n6;p1,34;p2,33;p3,32;p4,31;").crooks(1), 1);
        Check.due("just the last two", Check.laid("n6;p1,27;p2,27;p3,27;p4,26;").crooks(1), 1);
    }

    private static void whatOfCrooks() {
        StraightWhenAlone x = Check.laid("n5;");
        Check.edges("crooks", 0, 1, x::crooks);
    }

    private static void milestonesFrom1To99() {
        StraightWhenAlone x = new StraightWhenAlone();
        Check.edges("milestone", 1, 99, x::milestone);
        Check.due("milestone(99)", x.milestone(99), Check.NONE);
    }

    private static void milestoneAtAPostAndAYardAheadOfIt() {
        // post 1 is 19, 20, 21 along
        int[] due = {1, 1, 0};
        for (int k = 0; k < 3; k++) {
            StraightWhenAlone x = Check.laid("n5;p1," + (39 + k) + ";p2,40;p3,40;");
            Check.due("post 1 is " + (19 + k) + " along", x.milestone(1), due[k]);
        }
        StraightWhenAlone straight = Check.laid("n16;");
        for (int k = 1; k <= 7; k++) {
            Check.due("every second post", straight.milestone(k), 2 * k);
        }
        Check.due("150 along is no milestone", straight.milestone(8), Check.NONE);
    }

    private static void milestoneAtTheEndOfTheRoad() {
        // 58, 60, 62 long; a road is never of an odd length
        Check.due("58 long", Check.laid("n5;p2,39;").milestone(3), Check.NONE);
        Check.due("60 long", Check.laid("n5;p2,40;").milestone(3), 4);
        Check.due("62 long", Check.laid("n5;p2,41;").milestone(3), 3);
        StraightWhenAlone longest = Check.laid(zigzag());
        Check.due("990 long", longest.milestone(49), 14);
        Check.due("990 long, 1000 along", longest.milestone(50), Check.NONE);
    }

    private static void behind0To40Days() {
        StraightWhenAlone x = Check.laid("n5;p1,60;p2,0;p3,60;");
        Check.edges("behind", 0, 40, n -> x.behind(n, 1));
        Check.due("behind(0, 1)", x.behind(0, 1), 60);
        Check.due("behind(1, 1)", x.behind(1, 1), 59);
        Check.due("behind(29, 1)", x.behind(29, 1), 31);
        Check.due("behind(30, 1)", x.behind(30, 1), 30);
        Check.due("behind(40, 1)", x.behind(40, 1), 30);
        Check.due("behind(0, -1)", x.behind(0, -1), x.length());
        Check.due("behind(40, -1)", x.behind(40, -1), 40);
        Check.due("no day has gone by", x.count(3), 0);
    }

    private static void behindAnyPostOrTheLength() {
        for (int n = 5; n <= 16; n++) {
            StraightWhenAlone x = Check.laid("n" + n + ";p1,0;");
            Check.edges("post of behind", -1, n - 1, i -> x.behind(1, i));
            Check.due("the length", x.behind(1, -1), 10 * (n - 1) + 58);
            Check.due("the last well", x.behind(1, n - 1), 30);
        }
    }

    private static void behindGoesRound() {
        StraightWhenAlone x = Check.laid("n5;w0,0;t2,60;d0,0,0;d9,0,0;f0,0;");
        int[] yards = {30, 30, 30, 30, 30, 30, 30, 30, 30, 30, 31, 31, 30};
        for (int n = 0; n < yards.length; n++) {
            Check.due("behind " + n, x.behind(n, 2), yards[n]);
        }
        Check.due("behind 20", x.behind(20, 2), 31);
        Check.due("behind 40", x.behind(40, 2), 31);
        x.pass(9);
        Check.due("from day 9: 1", x.behind(1, 2), 31);
        Check.due("from day 9: 2", x.behind(2, 2), 31);
        Check.due("from day 9: 3", x.behind(3, 2), 30);
        Check.due("from day 9: 40", x.behind(40, 2), 30);
    }

    private static void doorOf0To3Walks() {
        StraightWhenAlone x = Check.laid("n5;w0,0;t2,60;t2,0;");
        for (int off = -4; off <= 4; off++) {
            int far = Math.abs(off);
            Check.due("door " + off + " off", x.door(2, 30 + off, 0), far <= 3 ? far : Check.NONE);
        }
        StraightWhenAlone back = Check.laid("n5;p1,10;p2,50;w4,0;t2,0;");
        // by 3 each
        Check.due("by nine", back.door(2, 41, 0), 3);
        Check.due("by ten", back.door(2, 40, 0), Check.NONE);
        Check.due("by eight: it goes by threes", back.door(2, 42, 0), Check.NONE);
        Check.due("by six", back.door(2, 44, 0), 2);
    }

    private static void doorOfAnyPostAndYard() {
        StraightWhenAlone x = Check.laid("n5;p1,57;p3,3;w0,0;t1,60;t3,0;");
        Check.edges("post of door", 0, 4, i -> x.door(i, 30, 0));
        Check.edges("yard of door", 0, 60, yard -> x.door(2, yard, 0));
        Check.due("up to 60", x.door(1, 60, 0), 3);
        Check.due("down to 0", x.door(3, 0, 0), 3);
        Check.due("the first well is there", x.door(0, 30, 0), 0);
        Check.due("the last well is there", x.door(4, 30, 0), 0);
        Check.due("the first well goes nowhere", x.door(0, 31, 0), Check.NONE);
        Check.due("the last well goes nowhere", x.door(4, 29, 0), Check.NONE);
    }

    private static void doorOfAKthWalk() {
        StraightWhenAlone x = Check.laid("n5;w1,0;w0,0;t1,60;t2,60;");
        Check.edges("k of door", 0, 3, k -> x.door(2, 31, k));
        for (int many = 0; many <= 4; many++) {
            Check.due("how many", x.door(2, 30 + many, 0), many <= 3 ? many : Check.NONE);
            for (int k = 1; k <= 3; k++) {
                Check.due("the " + k + "th of " + many, x.door(2, 30 + many, k), many <= 3 && k <= many ? 1 : Check.NONE);
            }
        }
        Check.due("a wrong number, where there is none", x.door(2, 60, 4), Check.BAD);
    }

    private static void doorByTheFirstRow() {
        // both walkers, and both things, would do
        StraightWhenAlone x = Check.laid("n6;w0,0;w0,1;t2,60;t2,50;t3,60;");
        Check.due("the lowest walker, thing", x.door(2, 31, 1), 0);
        Check.due("post 3: walker 0, thing 2", x.door(3, 31, 1), 2);
        Check.due("post 4: walker 1, thing 2", x.door(4, 31, 1), 12);
        StraightWhenAlone y = Check.laid("n6;p1,40;p2,50;w0,0;w4,0;t2,60;t2,0;");
        Check.due("up by two", y.door(2, 52, 0), 2);
        Check.due("plain twice", y.door(2, 52, 1), 0);
        Check.due("plain twice", y.door(2, 52, 2), 0);
        Check.due("up by three", y.door(2, 53, 0), 1);
        Check.due("looking back", y.door(2, 53, 1), 10);
        Check.due("up by four", y.door(2, 54, 0), 2);
        Check.due("plain first", y.door(2, 54, 1), 0);
        Check.due("looking back then", y.door(2, 54, 2), 10);
        Check.due("up by five", y.door(2, 55, 0), 3);
        Check.due("1st of three", y.door(2, 55, 1), 0);
        Check.due("2nd of three", y.door(2, 55, 2), 0);
        Check.due("3rd of three", y.door(2, 55, 3), 10);
        // post 2 comes up by what it is apart from post 1: that one goes up first, though its thing has the higher number
        StraightWhenAlone z = Check.laid("n5;p1,31;w4,0;t2,60;t1,60;");
        Check.due("by two", z.door(2, 32, 0), 2);
        Check.due("the lower post first", z.door(2, 32, 1), 1);
        Check.due("then the other", z.door(2, 32, 2), 0);
    }

    private static void doorInFogAndBehindShutWindows() {
        StraightWhenAlone x = Check.laid("n5;w0,0;t2,60;t2,50;f0,9;");
        Check.due("fog is nothing to a door", x.door(2, 31, 0), 1);
        Check.due("by the first thing", x.door(2, 31, 1), 0);
        x.shut(0, true);
        Check.due("shut", x.door(2, 31, 0), 1);
        Check.due("by the other thing", x.door(2, 31, 1), 1);
        x.shut(1, true);
        Check.due("both shut", x.door(2, 31, 0), Check.NONE);
        Check.due("both shut, but there", x.door(2, 30, 0), 0);
    }

    private static void doorWithoutWalkersOrThings() {
        for (String text : new String[] {"n5;", "n5;w0,9;", "n5;t2,60;"}) {
            StraightWhenAlone x = Check.laid(text);
            Check.due("there", x.door(2, 30, 0), 0);
            Check.due("there, the first", x.door(2, 30, 1), Check.NONE);
            Check.due("not there", x.door(2, 31, 0), Check.NONE);
            Check.due("not there, the first", x.door(2, 31, 1), Check.NONE);
        }
    }

    private static void doorIsFromNowOn() {
        StraightWhenAlone x = Check.laid("n5;w0,0;t2,60;");
        Check.due("four off", x.door(2, 34, 0), Check.NONE);
        x.walk(0, 0);
        Check.due("three off", x.door(2, 34, 0), 3);
        Check.due("behind it", x.door(2, 30, 0), Check.NONE);
        Check.due("asking is not walking", x.post(2), 31);
    }

    private static void mile0To999() {
        StraightWhenAlone x = Check.laid(zigzag() + "w0,9;t7,30;");
        Check.edges("mile", 0, 999, x::mile);
        Check.due("mile(0)", x.mile(0), 0);
        Check.due("mile(990)", x.mile(990), 0);
        Check.due("mile(991)", x.mile(991), Check.NONE);
        Check.due("mile(999)", x.mile(999), Check.NONE);
    }

    private static void mileOf0To3Walks() {
        StraightWhenAlone x = Check.laid("n5;w0,0;t2,60;");
        int[] due = {0, 0, 1, 1, 2, 2, 3, 3, Check.NONE};
        for (int k = 0; k < due.length; k++) {
            Check.due("mile(" + (39 + k) + ")", x.mile(39 + k), due[k]);
        }
        StraightWhenAlone sheep = Check.laid("n16;w2,9;t5,60;t10,60;");
        Check.due("long", sheep.length(), 150);
        // posts 1 to 14 but none beyond: 31 29 31 29 .. 31 29
        Check.due("by one walk", sheep.mile(150 + 2 * 14), 1);
        Check.due("by two walks", sheep.mile(150 + 2 * 14 + 1), 2);
    }

    private static void mileInFogAndBehindShutWindows() {
        StraightWhenAlone x = Check.laid("n5;w0,0;t2,60;f0,9;");
        Check.due("fog is nothing to a mile", x.mile(42), 1);
        x.shut(0, true);
        Check.due("shut", x.mile(41), Check.NONE);
        Check.due("shut, but so long", x.mile(40), 0);
        x.shut(0, false);
        x.walk(0, 0);
        x.pass(1);
        Check.due("asking is not walking", x.length(), 40);
    }

    private static void mileWithoutWalkersOrThings() {
        for (String text : new String[] {"n5;", "n5;w0,9;", "n5;t2,60;"}) {
            StraightWhenAlone x = Check.laid(text);
            Check.due("so long", x.mile(40), 0);
            Check.due("not so long", x.mile(41), Check.NONE);
        }
    }

    private static void window1To20() {
        StraightWhenAlone x = Check.laid("n5;w0,0;t2,60;d0,0,0;d9,0,0;");
        Check.edges("days of window", 1, 20, n -> x.window(n, 0));
        Check.edges("what of window", 0, 1, what -> x.window(1, what));
        Check.due("behind a day", x.window(1, 0), 0);
        Check.due("behind a day, as long", x.window(1, 1), 40);
        Check.due("behind two: it is straight again", x.window(2, 0), Check.NONE);
        Check.due("behind two, as long", x.window(2, 1), Check.NONE);
        Check.due("behind 9", x.window(9, 0), Check.NONE);
        Check.due("behind 10", x.window(10, 0), 0);
        Check.due("behind 20", x.window(20, 0), 0);
        Check.due("asking is not shutting", x.count(4), 0);
    }

    private static void windowLessThanSo() {
        // a walker who makes the road less long: shutting would make it longer
        StraightWhenAlone shorter = Check.laid("n5;p2,40;w0,0;t2,30;d0,0,0;");
        Check.due("no less: the walk straightens", shorter.window(1, 0), Check.NONE);
        // as long either way: 31 31 30 or 30 31 30
        StraightWhenAlone same = Check.laid("n5;p2,31;w0,0;t1,60;d0,0,0;");
        Check.due("as long as it would be else", same.window(1, 0), Check.NONE);
        Check.due("as long as it would be else, how long", same.window(1, 1), Check.NONE);
        // two yards less
        StraightWhenAlone less = Check.laid("n5;p2,31;w0,0;t2,60;d0,0,0;");
        Check.due("less", less.window(1, 0), 0);
        Check.due("less, how long", less.window(1, 1), 42);
        Check.due("nobody walks: none would help", Check.laid("n5;p2,31;w0,0;t2,60;").window(1, 0), Check.NONE);
        Check.due("in fog: none would help", Check.laid("n5;w0,0;t2,60;d0,0,0;f0,0;").window(1, 0), Check.NONE);
    }

    private static void windowTheLowestOfSeveral() {
        String road = "n8;w0,0;t1,60;t3,60;t5,60;";
        Check.due("all alike", Check.laid(road + "d0,0,0;d0,0,1;d0,0,2;").window(1, 0), 0);
        Check.due("the last two alike", Check.laid(road + "d0,0,2;d0,0,1;").window(1, 0), 1);
        // thing 2 is looked at twice
        StraightWhenAlone x = Check.laid(road + "d0,0,0;d0,0,1;d0,0,2;d0,0,2;");
        Check.due("the least long, not the lowest", x.window(1, 0), 2);
        Check.due("as long", x.window(1, 1), 74);
    }

    private static void windowOnlyOfThoseThatAreOpen() {
        StraightWhenAlone x = Check.laid("n8;w0,0;t1,60;t3,60;d0,0,0;d0,0,1;");
        Check.due("both open", x.window(1, 0), 0);
        x.shut(0, true);
        Check.due("the first one shut", x.window(1, 0), 1);
        Check.due("the first one shut, as long", x.window(1, 1), 70);
        x.shut(0, false);
        x.shut(1, true);
        Check.due("the other one shut", x.window(1, 0), 0);
        x.shut(0, true);
        Check.due("all shut", x.window(1, 0), Check.NONE);
        Check.due("all shut, as long", x.window(1, 1), Check.NONE);
        Check.due("no things", Check.laid("n5;w0,0;").window(20, 1), Check.NONE);
        StraightWhenAlone six = Check.laid("n5;w0,0;t2,60;t2,60;t2,60;t2,60;t2,60;t2,60;d0,0,5;");
        Check.due("the last of six", six.window(1, 0), 5);
    }

    private static void windowGoesRound() {
        StraightWhenAlone x = Check.laid("n5;w0,0;t1,60;t2,60;d9,0,0;d0,0,1;f1,1;");
        x.pass(9);
        Check.due("day 9", x.window(1, 0), 0);
        Check.due("days 9, 0: which", x.window(2, 0), Check.NONE);
        x.pass(1);
        Check.due("day 0 again", x.window(1, 0), Check.NONE);
        x.undo();
        x.shut(0, true);
        x.pass(1);
        Check.due("day 0 again, the other shut", x.window(1, 0), 1);
    }
}
