/** Promises 10 to 13: DAYS, WALKS, WINDOWS, UNDONE. */
final class DaysTest {
    private DaysTest() {
    }

    public static void main(String[] args) {
        nights();
        plainAndBlinkered();
        sheep();
        blind();
        lookingBack();
        wellsStay();
        walkedInVain();
        toldInTheirOrder();
        daysComeAgain();
        windows();
        undoing();
        undoingEightAtMost();
        wrongNumbers();
        Check.end("DaysTest");
    }

    private static void nights() {
        StraightWhenAlone x = Check.laid("n6;p1,27;p2,33;p3,31;p4,0;");
        Check.due("pass(1)", x.pass(1), 1);
        Check.postsDue("a night", x, 30, 28, 32, 30, 1, 30);
        Check.due("pass(20)", x.pass(20), 21);
        Check.postsDue("21 nights", x, 30, 30, 30, 30, 21, 30);
        Check.due("pass(9)", x.pass(9), 30);
        Check.postsDue("30 nights", x, 30, 30, 30, 30, 30, 30);
    }

    private static void plainAndBlinkered() {
        StraightWhenAlone x = Check.laid("n7;p2,41;p3,40;w0,1;w1,9;w0,0;t3,40;t0,0;");
        Check.due("plain, one is there", x.walk(0, 0), 2);
        Check.postsDue("plain", x, 30, 30, 40, 40, 31, 30, 30);
        Check.due("plain from a well", x.walk(0, 1), 1);
        Check.postsDue("plain from a well", x, 30, 29, 40, 40, 31, 30, 30);
        Check.due("blinkered, it is there", x.walk(1, 0), 0);
        Check.due("blinkered at a well", x.walk(1, 1), 0);
        Check.due("plain of no reach at a well", x.walk(2, 1), 0);
        Check.postsDue("blinkered", x, 30, 29, 40, 40, 31, 30, 30);
        StraightWhenAlone y = Check.laid("n5;w1,9;t2,40;");
        Check.due("blinkered", y.walk(0, 0), 1);
        Check.postsDue("blinkered bends one", y, 30, 30, 31, 30, 30);
    }

    private static void sheep() {
        StraightWhenAlone x = Check.laid("n9;p1,10;p2,10;p3,50;p4,50;p5,20;p6,20;w2,9;t4,20;");
        Check.due("sheep", x.walk(0, 0), 6);
        Check.postsDue("sheep", x, 30, 11, 9, 49, 51, 20, 21, 29, 30);
        StraightWhenAlone low = Check.laid("n7;p2,0;p4,60;w2,9;t3,1;t3,60;t3,0;");
        Check.due("not below 0, above 60", low.walk(0, 0), 3);
        Check.postsDue("not below 0, above 60", low, 30, 29, 0, 29, 60, 29, 30);
        Check.due("there already, at the top", low.walk(0, 1), 3);
        Check.postsDue("there already, at the top", low, 30, 30, 0, 30, 60, 30, 30);
        Check.due("there already, at the bottom", low.walk(0, 2), 4);
        Check.postsDue("there already, at the bottom", low, 30, 29, 1, 29, 60, 29, 30);
    }

    private static void blind() {
        StraightWhenAlone x = Check.laid("n8;p1,20;p2,20;p3,40;p4,30;p5,31;p6,29;w3,2;t3,60;");
        Check.due("blind", x.walk(0, 0), 4);
        Check.postsDue("blind", x, 30, 21, 21, 39, 30, 30, 29, 30);
    }

    private static void lookingBack() {
        StraightWhenAlone x = Check.laid("n7;p1,31;p2,33;p3,33;p4,38;p5,59;w4,9;w4,0;t3,60;t3,32;");
        Check.due("looking back", x.walk(0, 0), 1 + 1 + 1 + 3 + 1);
        Check.postsDue("looking back", x, 30, 32, 34, 34, 41, 60, 30);
        Check.due("looking back, not beyond", x.walk(0, 1), 2 + 2 + 3 + 3);
        Check.postsDue("looking back, not beyond", x, 30, 32, 32, 32, 38, 57, 30);
        StraightWhenAlone flat = Check.laid("n5;w4,9;t2,60;");
        Check.due("a flat road is not bent", flat.walk(0, 0), 0);
        StraightWhenAlone one = Check.laid("n7;p2,20;p4,45;w4,1;t3,33;");
        Check.due("within reach", one.walk(0, 0), 3 + 3 + 3);
        Check.postsDue("within reach", one, 30, 30, 23, 33, 42, 30, 30);
    }

    private static void wellsStay() {
        StraightWhenAlone x = Check.laid("n5;w0,9;w2,9;w3,9;w4,9;t0,60;t4,0;");
        for (int w = 0; w < 4; w++) {
            for (int t = 0; t < 2; t++) {
                x.walk(w, t);
                Check.due("well 0", x.post(0), 30);
                Check.due("well 4", x.post(4), 30);
            }
        }
    }

    private static void walkedInVain() {
        StraightWhenAlone x = Check.laid("n5;p2,40;w0,9;t2,60;d1,0,0;f0,2;");
        Check.due("fog: nothing bends", x.walk(0, 0), 0);
        Check.due("fog: it is walked", x.count(10), 1);
        x.pass(1);
        Check.postsDue("walked in fog", x, 30, 30, 40, 30, 30);
        Check.due("the next day it is not", x.count(10), 0);
        x.pass(1);
        Check.postsDue("told in fog", x, 30, 30, 40, 30, 30);
        x.pass(1);
        Check.postsDue("nobody in fog", x, 30, 30, 39, 30, 30);
        x.shut(0, true);
        Check.due("shut: nothing bends", x.walk(0, 0), 0);
        Check.due("shut: it is walked", x.count(10), 1);
        x.pass(2);
        Check.postsDue("walked with a window shut", x, 30, 30, 38, 30, 30);
        x.shut(0, false);
        Check.due("opened", x.walk(0, 0), 3);
        StraightWhenAlone y = Check.laid("n5;p2,40;w0,9;t2,60;d0,0,0;");
        y.shut(0, true);
        y.pass(2);
        Check.postsDue("told with a window shut", y, 30, 30, 39, 30, 30);
    }

    private static void toldInTheirOrder() {
        StraightWhenAlone x = Check.laid("n5;w3,9;w0,9;t2,40;d0,1,0;d0,0,0;");
        x.pass(1);
        Check.postsDue("plain, then blind", x, 30, 30, 30, 30, 30);
        StraightWhenAlone y = Check.laid("n5;w3,9;w0,9;t2,40;d0,0,0;d0,1,0;");
        y.pass(1);
        Check.postsDue("blind, then plain", y, 30, 31, 31, 31, 30);
        y.walk(1, 0);
        y.walk(1, 0);
        y.pass(1);
        Check.postsDue("walks besides come first", y, 30, 33, 33, 33, 30);
    }

    private static void daysComeAgain() {
        StraightWhenAlone x = Check.laid("n5;w0,0;t2,60;d3,0,0;f4,4;");
        x.pass(3);
        Check.due("ahead of day 3", x.post(2), 30);
        Check.due("day 3", x.pass(1), 4);
        Check.due("behind day 3", x.post(2), 31);
        Check.due("day 4", x.walk(0, 0), 0);
        x.pass(9);
        Check.due("ahead of day 13", x.post(2), 30);
        x.pass(1);
        Check.due("behind day 13", x.post(2), 31);
        Check.due("day 14", x.walk(0, 0), 0);
        x.pass(1);
        Check.due("day 15", x.walk(0, 0), 1);
    }

    private static void windows() {
        StraightWhenAlone x = Check.laid("n5;w0,0;t2,60;t1,5;");
        Check.due("open an open one", x.shut(0, false), Check.NO);
        Check.due("shut", x.shut(0, true), 1);
        Check.due("shut it again", x.shut(0, true), Check.NO);
        Check.due("shut the other", x.shut(1, true), 2);
        Check.due("open", x.shut(0, false), 1);
        Check.due("shut(2)", x.shut(2, true), Check.BAD);
        Check.due("shut(-1)", x.shut(-1, false), Check.BAD);
        Check.due("undone is only what was done", x.count(7), 3);
        Check.due("shut ones", x.count(4), 1);
    }

    private static void undoing() {
        StraightWhenAlone x = Check.laid("n5;p2,40;w0,0;t2,60;");
        Check.due("nothing to undo", x.undo(), Check.NO);
        x.walk(0, 0);
        x.pass(4);
        x.shut(0, true);
        x.keep();
        x.bent(2, 40);
        Check.due("post", x.post(2), 38);
        Check.due("undo a window", x.undo(), 2);
        Check.due("it is open", x.thing(0, 2), 0);
        Check.due("undo days", x.undo(), 1);
        Check.due("days", x.count(3), 0);
        Check.due("walked", x.count(10), 1);
        Check.due("post", x.post(2), 41);
        Check.due("undo a walk", x.undo(), 0);
        Check.due("walked", x.count(10), 0);
        Check.due("post", x.post(2), 40);
        Check.due("nothing more to undo", x.undo(), Check.NO);
        Check.due("kept stays", x.count(8), 1);
        Check.due("bent stays", x.count(5), 1);
    }

    private static void undoingEightAtMost() {
        StraightWhenAlone x = Check.laid("n5;w0,0;t2,60;");
        for (int k = 1; k <= 11; k++) {
            x.walk(0, 0);
            Check.due("that can be undone", x.count(7), Math.min(8, k));
        }
        for (int k = 7; k >= 0; k--) {
            Check.due("undo", x.undo(), k);
            Check.due("post", x.post(2), 33 + k);
        }
        Check.due("undo the ninth", x.undo(), Check.NO);
        Check.due("post", x.post(2), 33);
        x.pass(1);
        Check.due("undo once more", x.undo(), 0);
        Check.due("post", x.post(2), 33);
        Check.due("still walked", x.count(10), 1);
    }

    private static void wrongNumbers() {
        StraightWhenAlone x = new StraightWhenAlone();
        Check.due("pass(0)", x.pass(0), Check.BAD);
        Check.due("pass(21)", x.pass(21), Check.BAD);
        Check.due("pass(-1)", x.pass(-1), Check.BAD);
        Check.due("walk(3, 0)", x.walk(3, 0), Check.BAD);
        Check.due("walk(-1, 0)", x.walk(-1, 0), Check.BAD);
        Check.due("walk(0, 3)", x.walk(0, 3), Check.BAD);
        Check.due("walk(0, -1)", x.walk(0, -1), Check.BAD);
        Check.due("nothing is done", x.count(7), 0);
        Check.due("nobody walked", x.count(10), 0);
        Check.due("no day went by", x.count(3), 0);
    }
}
