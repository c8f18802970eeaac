/** Promises 1 to 9: a new object, THE TEXT, its FAULT, what is LAID. */
final class MoorsTest {
    private MoorsTest() {
    }

    public static void main(String[] args) {
        newObject();
        writing();
        wiping();
        faultsOfForm();
        faultsOfPosts();
        faultsOfWalkersAndThings();
        faultsOfDaysAndFogs();
        laying();
        layingClears();
        telling();
        Check.end("MoorsTest");
    }

    private static void newObject() {
        StraightWhenAlone x = new StraightWhenAlone();
        Check.postsDue("new", x, 30, 30, 30, 34, 36, 33, 30, 30, 30);
        int[] counts = {9, 3, 3, 0, 0, 0, 0, 0, 0, 0, 0};
        for (int what = 0; what < counts.length; what++) {
            Check.due("new: count(" + what + ")", x.count(what), counts[what]);
        }
        Check.due("new: fault", x.fault(), Check.NONE);
        Check.due("new: lay", x.lay(), Check.NO);
        Check.due("new: undo", x.undo(), Check.NO);
        Check.due("new: back", x.back(), Check.NO);
    }

    private static void writing() {
        StraightWhenAlone x = new StraightWhenAlone();
        Check.due("write(31)", x.write(31), Check.BAD);
        Check.due("write(127)", x.write(127), Check.BAD);
        Check.due("write(-1)", x.write(-1), Check.BAD);
        Check.due("write(32)", x.write(32), 1);
        Check.due("write(126)", x.write(126), 2);
        for (int k = 3; k <= 200; k++) {
            Check.due("write the " + k + "th", x.write('n'), k);
        }
        Check.due("write the 201st", x.write('n'), Check.FULL);
        Check.due("write a wrong one then", x.write(31), Check.BAD);
        Check.due("letters", x.count(9), 200);
    }

    private static void wiping() {
        StraightWhenAlone x = new StraightWhenAlone();
        Check.due("wipe nothing", x.wipe(), 0);
        Check.writeAll(x, "n5;x");
        Check.due("fault ahead of wipe", x.fault(), 3);
        Check.due("wipe", x.wipe(), 4);
        Check.due("letters behind wipe", x.count(9), 0);
        Check.due("fault behind wipe", x.fault(), Check.NONE);
        Check.due("wipe leaves the road", x.post(4), 36);
        Check.due("write behind wipe", x.write('n'), 1);
    }

    private static void faultsOfForm() {
        Check.faultDue("", Check.NONE);
        Check.faultDue("n", 0);
        Check.faultDue("n9", 0);
        Check.faultDue("n;", 0);
        Check.faultDue("n009;", 0);
        Check.faultDue("n09;", Check.NONE);
        Check.faultDue("n9,;", 0);
        Check.faultDue("n9,9;", 0);
        Check.faultDue(";", 0);
        Check.faultDue("n9;;", 3);
        Check.faultDue("n9; ", 3);
        Check.faultDue("N9;", 0);
        Check.faultDue("n9;x1,1;", 3);
        Check.faultDue("n9;p1;", 3);
        Check.faultDue("n9;p1,2,3;", 3);
        Check.faultDue("n9;p1,;", 3);
        Check.faultDue("n9;p,1;", 3);
        Check.faultDue("n9;p1.1;", 3);
        Check.faultDue("n9;p1,-1;", 3);
        Check.faultDue("n9;p1,1", 3);
        Check.faultDue("w0,1;t1,1;d0,0;", 10);
        Check.faultDue("w0,1;t1,1;d0,0,0,0;", 10);
        Check.faultDue("f1;", 0);
        Check.faultDue("p1,1;f1,1;w1;t1;", 10);
    }

    private static void faultsOfPosts() {
        Check.faultDue("n4;", 0);
        Check.faultDue("n5;", Check.NONE);
        Check.faultDue("n16;", Check.NONE);
        Check.faultDue("n17;", 0);
        Check.faultDue("n5;n16;p14,1;", Check.NONE);
        Check.faultDue("n16;n5;p4,1;", 7);
        Check.faultDue("p1,1;n9;", 5);
        Check.faultDue("n9;f1,1;n9;", 8);
        Check.faultDue("p0,1;", 0);
        Check.faultDue("p1,0;p7,60;", Check.NONE);
        Check.faultDue("p8,1;", 0);
        Check.faultDue("p1,61;", 0);
        Check.faultDue("n16;p14,1;p15,1;", 10);
    }

    private static void faultsOfWalkersAndThings() {
        Check.faultDue("w4,9;w0,0;", Check.NONE);
        Check.faultDue("w5,1;", 0);
        Check.faultDue("w0,10;", 0);
        Check.faultDue("w0,1;w1,1;w2,1;w3,1;", Check.NONE);
        Check.faultDue("w0,1;w1,1;w2,1;w3,1;w4,1;", 20);
        Check.faultDue("t0,0;t8,60;", Check.NONE);
        Check.faultDue("t9,1;", 0);
        Check.faultDue("t1,61;", 0);
        Check.faultDue("t1,1;t1,1;t1,1;t1,1;t1,1;t1,1;", Check.NONE);
        Check.faultDue("t1,1;t1,1;t1,1;t1,1;t1,1;t1,1;t1,1;", 30);
    }

    private static void faultsOfDaysAndFogs() {
        String both = "w0,1;t1,1;";
        Check.faultDue(both + "d0,0,0;d9,0,0;", Check.NONE);
        Check.faultDue(both + "d10,0,0;", 10);
        Check.faultDue(both + "d0,1,0;", 10);
        Check.faultDue(both + "d0,0,1;", 10);
        Check.faultDue("w0,1;d0,0,0;t1,1;", 5);
        Check.faultDue("t1,1;d0,0,0;w0,1;", 5);
        StringBuilder eight = new StringBuilder(both);
        for (int k = 0; k < 8; k++) {
            eight.append("d1,0,0;");
        }
        Check.faultDue(eight.toString(), Check.NONE);
        Check.faultDue(eight + "d1,0,0;", 66);
        Check.faultDue("f0,9;f5,5;", Check.NONE);
        Check.faultDue("f5,4;", 0);
        Check.faultDue("f5,10;", 0);
        Check.faultDue("f10,10;", 0);
        Check.faultDue("f0,9;f5,5;f1,1;", 10);
    }

    private static void laying() {
        StraightWhenAlone x = Check.laid("n5;n7;p1,0;p5,60;p1,7;");
        Check.postsDue("the last of each", x, 30, 7, 30, 30, 30, 60, 30);
        Check.due("letters stay", x.count(9), 22);
        Check.due("lay again", x.lay(), 7);
        x.wipe();
        Check.due("lay nothing", x.lay(), Check.NO);
        Check.writeAll(x, "n8;p3,3");
        Check.due("lay a faulty one", x.lay(), Check.NO);
        Check.due("fault", x.fault(), 3);
        Check.postsDue("nothing changes", x, 30, 7, 30, 30, 30, 60, 30);
        x.write(';');
        Check.due("lay it mended", x.lay(), 8);
        Check.postsDue("no yard of the road ahead of it", x, 30, 30, 30, 3, 30, 30, 30, 30);
        Check.due("no walkers left", x.count(1), 0);
        Check.due("no things left", x.count(2), 0);
        Check.due("without n there are 9", Check.laid("f1,1;").count(0), 9);
    }

    private static void layingClears() {
        StraightWhenAlone x = Check.laid("p1,3;w0,1;t1,9;");
        x.keep();
        x.bent(1, 4);
        x.found(1, 1, 4);
        x.shut(0, true);
        x.pass(3);
        x.walk(0, 0);
        x.wipe();
        Check.writeAll(x, "x");
        Check.due("lay a faulty one", x.lay(), Check.NO);
        int[] before = {9, 1, 1, 3, 1, 1, 1, 3, 1, 1, 1};
        for (int what = 0; what < before.length; what++) {
            Check.due("ahead of lay: count(" + what + ")", x.count(what), before[what]);
        }
        x.wipe();
        Check.writeAll(x, "p1,3;w0,1;t1,9;");
        Check.due("lay", x.lay(), 9);
        int[] after = {9, 1, 1, 0, 0, 0, 0, 0, 0, 15, 0};
        for (int what = 0; what < after.length; what++) {
            Check.due("behind lay: count(" + what + ")", x.count(what), after[what]);
        }
        Check.due("post behind lay", x.post(1), 3);
    }

    private static void telling() {
        StraightWhenAlone x = Check.laid("n5;w0,0;w1,1;w2,2;w4,9;t0,0;t4,60;d9,0,0;d9,3,1;d0,1,1;f0,1;f9,9;");
        int[] kinds = {0, 1, 2, 4};
        int[] reaches = {0, 1, 2, 9};
        for (int w = 0; w < 4; w++) {
            Check.due("kind of " + w, x.walker(w, 0), kinds[w]);
            Check.due("reach of " + w, x.walker(w, 1), reaches[w]);
        }
        Check.due("walker(4, 0)", x.walker(4, 0), Check.BAD);
        Check.due("walker(-1, 0)", x.walker(-1, 0), Check.BAD);
        Check.due("walker(0, -1)", x.walker(0, -1), Check.BAD);
        Check.due("walker(0, 2)", x.walker(0, 2), Check.BAD);
        Check.due("thing(0, 0)", x.thing(0, 0), 0);
        Check.due("thing(1, 0)", x.thing(1, 0), 4);
        Check.due("thing(1, 1)", x.thing(1, 1), 60);
        Check.due("thing(1, 2)", x.thing(1, 2), 0);
        x.shut(1, true);
        Check.due("thing(1, 2) shut", x.thing(1, 2), 1);
        Check.due("thing(0, 2) open", x.thing(0, 2), 0);
        Check.due("thing(2, 0)", x.thing(2, 0), Check.BAD);
        Check.due("thing(-1, 0)", x.thing(-1, 0), Check.BAD);
        Check.due("thing(0, 3)", x.thing(0, 3), Check.BAD);
        Check.due("thing(0, -1)", x.thing(0, -1), Check.BAD);
        Check.due("day(9, 0)", x.day(9, 0), 2);
        Check.due("day(199, 0)", x.day(199, 0), 2);
        Check.due("day(190, 0)", x.day(190, 0), 1);
        Check.due("day(5, 0)", x.day(5, 0), 0);
        Check.due("day(0, 1)", x.day(0, 1), 1);
        Check.due("day(11, 1)", x.day(11, 1), 1);
        Check.due("day(2, 1)", x.day(2, 1), 0);
        Check.due("day(8, 1)", x.day(8, 1), 0);
        Check.due("day(199, 1)", x.day(199, 1), 1);
        Check.due("day(-1, 0)", x.day(-1, 0), Check.BAD);
        Check.due("day(200, 0)", x.day(200, 0), Check.BAD);
        Check.due("day(0, 2)", x.day(0, 2), Check.BAD);
        Check.due("day(0, -1)", x.day(0, -1), Check.BAD);
        Check.due("post(-1)", x.post(-1), Check.BAD);
        Check.due("post(4)", x.post(4), 30);
        Check.due("post(5)", x.post(5), Check.BAD);
    }
}
