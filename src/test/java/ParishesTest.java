/** Promises 26 to 30: PARISHES, YEARS, KEPT, counts. */
final class ParishesTest {
    private ParishesTest() {
    }

    public static void main(String[] args) {
        twoParishes();
        parishesAsByWalks();
        wrongParishes();
        years();
        yearsFromNow();
        wrongYears();
        keeping();
        counting();
        Check.end("ParishesTest");
    }

    private static void twoParishes() {
        // both want up; thing 0 lifts post 1 and 2, thing 1 lifts 3, thing 2 lowers all
        StraightWhenAlone x = Check.laid("n6;w0,1;t1,60;t4,60;t2,0;f0,9;");
        Check.due("each its own or its neighbour's", x.parishes(0, 1, 0, 4, 0), 1);
        Check.due("the first", x.parishes(0, 1, 0, 4, 1), 1);
        Check.due("the other way round", x.parishes(0, 4, 0, 1, 1), 10);
        Check.due("a well is all the same to it", x.parishes(0, 0, 0, 4, 0), 3);
        Check.due("the first", x.parishes(0, 0, 0, 4, 1), 1);
        Check.due("two wells", x.parishes(0, 0, 0, 5, 0), 9);
        Check.due("two wells: the first", x.parishes(0, 0, 0, 5, 1), 0);
        x.shut(0, true);
        // post 1 stays by 0 or 1, falls by 2
        Check.due("shut", x.parishes(0, 1, 0, 4, 0), 2);
        Check.due("shut: the first", x.parishes(0, 1, 0, 4, 1), 1);
        Check.due("nobody walked", x.count(10), 0);
        StraightWhenAlone none = Check.laid("n6;w0,1;");
        Check.due("no things", none.parishes(0, 1, 0, 2, 0), 0);
        Check.due("no things: the first", none.parishes(0, 1, 0, 2, 1), Check.NONE);
    }

    private static void parishesAsByWalks() {
        // one who looks back bends by what the first one has bent
        StraightWhenAlone x = Check.laid("n5;p1,33;p2,30;w0,0;w4,9;t1,60;t2,60;t1,0;");
        int many = 0;
        int first = Check.NONE;
        for (int a = 2; a >= 0; a--) {
            for (int b = 2; b >= 0; b--) {
                if (rests(x, a, b)) {
                    many++;
                    first = 10 * a + b;
                }
            }
        }
        Check.due("as by walks", x.parishes(0, 2, 1, 1, 0), many);
        Check.due("as by walks: the first", x.parishes(0, 2, 1, 1, 1), first);
    }

    private static boolean rests(StraightWhenAlone x, int a, int b) {
        for (int t = 0; t < 3; t++) {
            if (yardBehind(x, t, b, 2) > yardBehind(x, a, b, 2) || yardBehind(x, a, t, 1) > yardBehind(x, a, b, 1)) {
                return false;
            }
        }
        return true;
    }

    private static int yardBehind(StraightWhenAlone x, int a, int b, int i) {
        x.walk(0, a);
        x.walk(1, b);
        int yard = x.post(i);
        x.undo();
        x.undo();
        return yard;
    }

    private static void wrongParishes() {
        StraightWhenAlone x = new StraightWhenAlone();
        Check.due("posts alike", x.parishes(0, 3, 1, 3, 0), Check.BAD);
        Check.due("no such first walker", x.parishes(3, 3, 1, 4, 0), Check.BAD);
        Check.due("no such first post", x.parishes(0, 9, 1, 4, 0), Check.BAD);
        Check.due("no such other walker", x.parishes(0, 3, -1, 4, 0), Check.BAD);
        Check.due("no such other post", x.parishes(0, 3, 1, -1, 0), Check.BAD);
        Check.due("no such what", x.parishes(0, 3, 1, 4, 2), Check.BAD);
        Check.due("no such what", x.parishes(0, 3, 1, 4, -1), Check.BAD);
    }

    private static void years() {
        StraightWhenAlone x = Check.laid("n5;p2,40;w0,0;t2,60;t3,60;f0,9;d0,0,0;");
        for (int z = 0; z < 10000; z += 1111) {
            for (int n = 1; n <= 60; n += 7) {
                yearAsWalked(z, n);
            }
        }
        Check.due("nobody is nobody", Check.laid("n5;t2,60;").year(7, 60, 1), 60);
        Check.due("no thing, nobody", Check.laid("n5;w0,1;").year(7, 60, 1), 60);
        // DRAW 0 on day 0 of year 0: walker 0, thing 0, in fog
        Check.due("year(0, 1, 1)", x.year(0, 1, 1), 0);
        Check.due("year(0, 1, 0)", x.year(0, 1, 0), 60);
        Check.due("nothing went by", x.count(3), 0);
    }

    private static long drawn(long z, long k) {
        long x = 7919L * z + 6151L * k + 1L;
        return x * x % 65521L / 8L;
    }

    /** A year on a moor without fog or told days, walked day by day; a draw in fog is walked with all shut. */
    private static void yearAsWalked(int z, int n) {
        String text = "n8;p2,44;p3,12;w0,2;w2,9;w4,3;t2,60;t5,5;t0,33;t6,48;";
        int due = Check.laid(text).year(z, n, 0);
        int dueNights = Check.laid(text).year(z, n, 1);
        StraightWhenAlone x = Check.laid(text);
        int nights = 0;
        for (int k = 0; k < n; k++) {
            long draw = drawn(z, k);
            int w = (int) (draw % 4);
            int t = (int) (draw / 8 % 4);
            if (w == 3) {
                nights++;
            } else if (draw / 64 % 4 == 0) {
                x.shut(t, true);
                x.walk(w, t);
                x.shut(t, false);
            } else {
                x.walk(w, t);
            }
            x.pass(1);
        }
        Check.due("year(" + z + ", " + n + ", 0)", due, x.length());
        Check.due("year(" + z + ", " + n + ", 1)", dueNights, nights);
    }

    private static void yearsFromNow() {
        StraightWhenAlone x = Check.laid("n5;p2,40;w0,0;");
        Check.due("nights", x.year(3, 5, 1), 5);
        Check.due("long", x.year(3, 5, 0), 50);
        StraightWhenAlone y = Check.laid("n5;p2,40;w0,0;w0,0;w0,0;w0,0;t2,60;");
        y.walk(0, 0);
        int ahead = y.count(7);
        int nobody = -1;
        for (int z = 0; z < 200 && nobody < 0; z++) {
            if (drawn(z, 0) % 5 == 4) {
                nobody = z;
            }
        }
        Check.due("walked today: no night", y.year(nobody, 1, 1), 0);
        Check.due("walked today: as long", y.year(nobody, 1, 0), 62);
        Check.due("nothing is done", y.count(7), ahead);
        y.undo();
        Check.due("nobody walked: a night", y.year(nobody, 1, 1), 1);
        Check.due("nobody walked: straighter", y.year(nobody, 1, 0), 58);
    }

    private static void wrongYears() {
        StraightWhenAlone x = new StraightWhenAlone();
        Check.due("year(-1, 1, 0)", x.year(-1, 1, 0), Check.BAD);
        Check.due("year(10000, 1, 0)", x.year(10000, 1, 0), Check.BAD);
        Check.due("year(0, 0, 0)", x.year(0, 0, 0), Check.BAD);
        Check.due("year(0, 61, 0)", x.year(0, 61, 0), Check.BAD);
        Check.due("year(0, 1, 2)", x.year(0, 1, 2), Check.BAD);
        Check.due("year(0, 1, -1)", x.year(0, 1, -1), Check.BAD);
        Check.that("year(9999, 60, 0)", x.year(9999, 60, 0) >= 80);
    }

    private static void keeping() {
        StraightWhenAlone x = Check.laid("n5;p2,40;w0,0;t2,60;");
        Check.due("back to nothing", x.back(), Check.NO);
        x.walk(0, 0);
        Check.due("keep", x.keep(), 1);
        x.pass(3);
        x.shut(0, true);
        Check.due("keep another", x.keep(), 2);
        Check.due("keep a third", x.keep(), Check.FULL);
        x.shut(0, false);
        x.pass(1);
        x.bent(1, 30);
        Check.due("back to the last", x.back(), 1);
        Check.due("days", x.count(3), 3);
        Check.due("shut", x.thing(0, 2), 1);
        Check.due("walked", x.count(10), 0);
        Check.due("post", x.post(2), 39);
        Check.due("nothing can be undone", x.undo(), Check.NO);
        Check.due("bent stays", x.count(5), 1);
        Check.due("back to the first", x.back(), 0);
        Check.due("days", x.count(3), 0);
        Check.due("open", x.thing(0, 2), 0);
        Check.due("walked", x.count(10), 1);
        Check.due("post", x.post(2), 41);
        Check.due("no more", x.back(), Check.NO);
        x.pass(1);
        Check.due("back in vain leaves what can be undone", x.back(), Check.NO);
        Check.due("undone", x.undo(), 0);
        Check.due("keep again", x.keep(), 1);
    }

    private static void counting() {
        StraightWhenAlone x = Check.laid("n6;w0,0;w1,1;t2,60;t3,3;t4,4;");
        Check.due("count(-1)", x.count(-1), Check.BAD);
        Check.due("count(11)", x.count(11), Check.BAD);
        x.pass(7);
        x.shut(1, true);
        x.shut(2, true);
        x.bent(1, 1);
        x.bent(1, 1);
        x.bent(1, 1);
        x.found(1, 1, 1);
        x.keep();
        x.keep();
        x.walk(0, 0);
        int[] counts = {6, 2, 3, 7, 2, 3, 1, 4, 2, 29, 1};
        for (int what = 0; what < counts.length; what++) {
            Check.due("count(" + what + ")", x.count(what), counts[what]);
        }
    }
}
