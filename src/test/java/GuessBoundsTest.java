import java.util.function.IntUnaryOperator;

/** Section 4 of the document, sentence by sentence: each bound of BENT to KEPT and of the counts, on both its sides. */
final class GuessBoundsTest {
    private static final String SIX_THINGS = "t2,60;t3,60;t1,60;t1,0;t2,0;t3,0;";

    private GuessBoundsTest() {
    }

    public static void main(String[] args) {
        bentOfAnyPostAndYard();
        sixBentAtMost();
        lookedOfNothingBent();
        lookedByAllThatIsBent();
        lookedByTheLastTwo();
        lookedWithNoFog();
        foundOfAnyPostTimeAndYard();
        sixFoundAtMost();
        bentAndFoundApart();
        fogOfNothingFound();
        fogByTheNextTenDays();
        fogInPlaceOfWhatIsTold();
        fogGoesRound();
        fogByWhatIsWalkedToday();
        parishesOfAnyWalkersAndPosts();
        parishesWithoutThings();
        parishesByTheirFirst();
        parishesThatNeverRest();
        parishesWithNoFog();
        yearsFrom0To9999();
        yearsOf1To60Days();
        yearsInPlaceOfWhatIsTold();
        yearsBehindShutWindows();
        yearsWithoutWalkersOrThings();
        yearsOfADay();
        twoKeptAtMost();
        backAsKeptLast();
        backLeavesNothingUndone();
        keptIsAllOfTheRoad();
        countsFrom0To10();
        Check.end("GuessBoundsTest");
    }

    private static void bentOfAnyPostAndYard() {
        for (int n = 5; n <= 16; n += 11) {
            StraightWhenAlone x = Check.laid("n" + n + ";");
            Check.edges("post of bent", 0, n - 1, i -> x.bent(i, 30));
            Check.edges("yard of bent", 0, 60, yard -> x.bent(2, yard));
            Check.due("only the taken ones are bent", x.count(5), 4);
        }
    }

    private static void sixBentAtMost() {
        StraightWhenAlone x = Check.laid("n5;w0,0;t2,60;");
        for (int k = 1; k <= 6; k++) {
            Check.due("bent", x.bent(2, 31), k);
            Check.due("how many", x.count(5), k);
        }
        Check.due("a seventh", x.bent(1, 31), Check.FULL);
        Check.due("a seventh of a wrong post", x.bent(5, 31), Check.BAD);
        Check.due("a seventh at a wrong yard", x.bent(1, 61), Check.BAD);
        Check.due("six", x.count(5), 6);
        Check.due("the seventh is not there", x.looked(0), 1);
        Check.due("forget", x.forget(), 6);
        Check.due("none", x.count(5), 0);
        Check.due("forget nothing", x.forget(), 0);
        Check.due("again", x.bent(1, 31), 1);
    }

    private static void lookedOfNothingBent() {
        StraightWhenAlone x = Check.laid("n5;w0,0;w1,0;w2,0;w3,0;" + SIX_THINGS);
        Check.edges("looked", 0, 1, x::looked);
        Check.due("all twos", x.looked(0), 24);
        Check.due("the first", x.looked(1), 0);
        for (String text : new String[] {"n5;", "n5;w0,1;", "n5;t2,60;"}) {
            StraightWhenAlone none = Check.laid(text);
            Check.due("no twos", none.looked(0), 0);
            Check.due("no twos, the first", none.looked(1), Check.NONE);
        }
    }

    private static void lookedByAllThatIsBent() {
        StraightWhenAlone x = Check.laid("n5;w0,0;w0,1;" + SIX_THINGS);
        x.bent(2, 31);
        Check.due("post 2 goes up", x.looked(0), 1 + 3);
        Check.due("post 2 goes up, the first", x.looked(1), 0);
        x.bent(1, 31);
        Check.due("post 1, too", x.looked(0), 2);
        Check.due("post 1, too, the first", x.looked(1), 10);
        x.bent(3, 30);
        Check.due("post 3 does not", x.looked(0), 1);
        Check.due("post 3 does not, the first", x.looked(1), 12);
        x.bent(0, 30);
        x.bent(4, 30);
        Check.due("wells stay", x.looked(0), 1);
        x.bent(2, 32);
        Check.due("two yards for one post", x.looked(0), 0);
        Check.due("two yards for one post, the first", x.looked(1), Check.NONE);
        x.forget();
        x.bent(4, 31);
        Check.due("a well that moves", x.looked(0), 0);
        x.forget();
        for (int k = 0; k < 5; k++) {
            x.bent(0, 30);
        }
        x.bent(3, 29);
        Check.due("the sixth counts, too", x.looked(0), 1 + 2);
        Check.due("the sixth counts, too, the first", x.looked(1), 5);
    }

    private static void lookedByTheLastTwo() {
        StraightWhenAlone x = Check.laid("n8;w0,0;w0,0;w0,0;w0,1;t1,60;t1,60;t1,60;t1,60;t1,60;t6,60;");
        x.bent(5, 31);
        Check.due("just one", x.looked(0), 1);
        Check.due("the last walker, the last thing", x.looked(1), 35);
    }

    private static void lookedWithNoFog() {
        StraightWhenAlone x = Check.laid("n5;w0,0;t2,60;f0,9;");
        x.bent(2, 31);
        Check.due("fog is nothing to who looked", x.looked(0), 1);
        x.shut(0, true);
        Check.due("shut", x.looked(0), 0);
        Check.due("asking is not walking", x.post(2), 30);
        Check.due("asking is not walking", x.count(10), 0);
    }

    private static void foundOfAnyPostTimeAndYard() {
        for (int n = 5; n <= 16; n += 11) {
            StraightWhenAlone x = Check.laid("n" + n + ";");
            Check.edges("post of found", 0, n - 1, i -> x.found(i, 1, 30));
            Check.edges("days of found", 1, 10, t -> x.found(2, t, 30));
            Check.edges("yard of found", 0, 60, yard -> x.found(2, 1, yard));
            Check.due("only the taken ones are found", x.count(6), 6);
        }
    }

    private static void sixFoundAtMost() {
        StraightWhenAlone x = Check.laid("n5;w0,0;t2,60;");
        for (int k = 1; k <= 6; k++) {
            Check.due("found", x.found(2, k, 30), k);
            Check.due("how many", x.count(6), k);
        }
        Check.due("a seventh", x.found(2, 7, 31), Check.FULL);
        Check.due("a seventh of a wrong post", x.found(-1, 7, 31), Check.BAD);
        Check.due("a seventh on a wrong day", x.found(2, 11, 31), Check.BAD);
        Check.due("a seventh at a wrong yard", x.found(2, 7, -1), Check.BAD);
        Check.due("six", x.count(6), 6);
        Check.due("the seventh is not there", x.fog(), 1023);
        Check.due("forget", x.forget(), 6);
        Check.due("none", x.count(6), 0);
        for (int k = 1; k <= 5; k++) {
            x.found(2, 1, 30);
        }
        x.found(2, 10, 31);
        Check.due("the sixth counts, too", x.fog(), 0);
    }

    private static void bentAndFoundApart() {
        StraightWhenAlone x = Check.laid("n5;w0,0;t2,60;");
        x.bent(2, 50);
        Check.due("bent is nothing to fog", x.fog(), 1023);
        Check.due("nobody looked so", x.looked(0), 0);
        x.forget();
        x.found(2, 1, 50);
        Check.due("found is nothing to who looked", x.looked(0), 1);
        Check.due("no fog is so", x.fog(), 0);
        for (int k = 1; k <= 6; k++) {
            x.bent(2, 50);
        }
        Check.due("six bent leave room to find", x.found(2, 1, 50), 2);
        Check.due("forget both", x.forget(), 8);
        x.pass(1);
        x.bent(2, 50);
        x.found(2, 1, 50);
        x.undo();
        x.keep();
        x.back();
        Check.due("undo and back leave what is bent", x.count(5), 1);
        Check.due("undo and back leave what is found", x.count(6), 1);
        x.lay();
        Check.due("lay does not, bent", x.count(5), 0);
        Check.due("lay does not, found", x.count(6), 0);
    }

    private static void fogOfNothingFound() {
        Check.due("nothing found", Check.laid("n5;").fog(), 1023);
        Check.due("nothing found, told ones", new StraightWhenAlone().fog(), 1023);
    }

    private static void fogByTheNextTenDays() {
        StringBuilder text = new StringBuilder("n5;w0,0;t2,60;");
        for (int d : new int[] {0, 1, 4, 5, 8, 9}) {
            text.append('d').append(d).append(",0,0;");
        }
        // yards without fog: 31 32 31 30 31 32 31 30 31 32
        int[] yards = {31, 32, 31, 30, 31, 32, 31, 30, 31, 32};
        for (int t = 1; t <= 10; t++) {
            StraightWhenAlone x = Check.laid(text.toString());
            x.found(2, t, yards[t - 1]);
            Check.that("a fog on a day behind it is all the same, t " + t, (x.fog() >> t) == (1023 >> t));
            Check.due("a fog on the day itself, t " + t, x.fog() >> (t - 1) & 1, "1100110011".charAt(t - 1) == '1' ? 0 : 1);
        }
        StraightWhenAlone first = Check.laid(text.toString());
        first.found(2, 1, 30);
        Check.due("just on this day", first.fog(), 1);
        StraightWhenAlone last = Check.laid(text.toString());
        last.found(2, 9, 31);
        last.found(2, 10, 31);
        Check.due("just on the tenth", last.fog(), 512);
    }

    private static void fogInPlaceOfWhatIsTold() {
        for (String fogs : new String[] {"", "f0,0;", "f0,9;", "f1,9;"}) {
            StraightWhenAlone x = Check.laid("n5;w0,0;t2,60;d0,0,0;d1,0,0;d2,0,0;" + fogs);
            x.found(2, 3, 32);
            Check.due("one of three in fog, told " + fogs, x.fog(), 7);
            x.found(2, 1, 31);
            Check.due("not the first, told " + fogs, x.fog(), 6);
            x.found(2, 2, 31);
            Check.due("the second, told " + fogs, x.fog(), 2);
            Check.due("no day has gone by", x.count(3), 0);
        }
    }

    private static void fogGoesRound() {
        StraightWhenAlone x = Check.laid("n5;w0,0;t2,60;d9,0,0;d0,0,0;");
        x.pass(8);
        x.found(2, 3, 31);
        Check.due("day 9 or day 0 again", x.fog(), 2 + 4);
        x.found(2, 2, 31);
        Check.due("day 0 again", x.fog(), 4);
        x.pass(1);
        x.forget();
        x.found(2, 2, 31);
        Check.due("a day later", x.fog(), 1 + 2);
        x.found(2, 10, 30);
        Check.due("day 9 is too far", x.fog(), 1 + 2);
    }

    private static void fogByWhatIsWalkedToday() {
        StraightWhenAlone x = Check.laid("n5;p2,40;w0,0;t2,60;t1,30;");
        x.walk(0, 1);
        x.found(2, 1, 40);
        Check.due("walked: no night", x.fog(), 1023);
        x.found(2, 2, 39);
        Check.due("the next one is", x.fog(), 1023);
        x.undo();
        Check.due("not walked: a night", x.fog(), 0);
    }

    private static void parishesOfAnyWalkersAndPosts() {
        StraightWhenAlone x = Check.laid("n5;w0,1;w2,1;w4,9;t2,60;t3,0;");
        Check.edges("first walker", 0, 2, v -> x.parishes(v, 1, 0, 2, 0));
        Check.edges("other walker", 0, 2, w -> x.parishes(0, 1, w, 2, 0));
        Check.edges("first post", 0, 4, i -> x.parishes(0, i, 0, 2, 0));
        Check.edges("other post", 0, 4, j -> x.parishes(0, 2, 0, j, 0));
        Check.edges("what", 0, 1, what -> x.parishes(0, 1, 0, 2, what));
        for (int i = 0; i <= 4; i++) {
            for (int j = 0; j <= 4; j++) {
                Check.due("posts " + i + ", " + j, x.parishes(0, i, 1, j, 0) == Check.BAD ? 1 : 0, i == j ? 1 : 0);
            }
        }
        Check.that("the same walker", x.parishes(1, 1, 1, 2, 0) > 0);
        Check.due("no walkers", Check.laid("n5;t2,60;").parishes(0, 1, 0, 2, 0), Check.BAD);
    }

    private static void parishesWithoutThings() {
        StraightWhenAlone x = Check.laid("n5;w0,1;");
        Check.due("no things", x.parishes(0, 1, 0, 2, 0), 0);
        Check.due("no things, the first", x.parishes(0, 1, 0, 2, 1), Check.NONE);
        StraightWhenAlone one = Check.laid("n5;w0,1;t2,0;");
        Check.due("one thing: there is no other", one.parishes(0, 1, 0, 2, 0), 1);
        Check.due("one thing: the first", one.parishes(0, 1, 0, 2, 1), 0);
    }

    private static void parishesByTheirFirst() {
        // each one's post goes up by one thing alone
        StraightWhenAlone x = Check.laid("n8;w0,0;t1,60;t2,60;t3,60;t4,60;t5,60;t6,60;");
        for (int i = 1; i <= 6; i++) {
            for (int j = 1; j <= 6; j++) {
                if (i != j) {
                    Check.due("each its own", x.parishes(0, i, 0, j, 0), 1);
                    Check.due("each its own, the first", x.parishes(0, i, 0, j, 1), 10 * (i - 1) + j - 1);
                }
            }
        }
        Check.due("the other one does not mind", x.parishes(0, 6, 0, 0, 0), 6);
        Check.due("the other one does not mind, the first", x.parishes(0, 6, 0, 7, 1), 50);
        Check.due("neither minds", x.parishes(0, 0, 0, 7, 0), 36);
        Check.due("neither minds, the first", x.parishes(0, 7, 0, 0, 1), 0);
        x.shut(2, true);
        Check.due("shut: nothing lifts post 3", x.parishes(0, 3, 0, 4, 0), 6);
        Check.due("shut: nothing lifts post 3, the first", x.parishes(0, 3, 0, 4, 1), 3);
        Check.due("asking is not walking", x.count(10), 0);
    }

    private static void parishesThatNeverRest() {
        // yards of posts 3, 2 behind both: things 0, 0: 30, 30; 0, 1: 28, 32; 1, 0: 28, 30; 1, 1: 29, 29
        StraightWhenAlone x = Check.laid("n5;p1,33;p2,31;w2,1;w4,2;t1,25;t4,26;");
        Check.due("none", x.parishes(0, 3, 1, 2, 0), 0);
        Check.due("none, the first", x.parishes(0, 3, 1, 2, 1), Check.NONE);
        Check.that("with the walkers the other way round there is one", x.parishes(1, 3, 0, 2, 0) > 0);
    }

    private static void parishesWithNoFog() {
        StraightWhenAlone x = Check.laid("n6;w0,0;t1,60;t2,60;f0,9;");
        Check.due("fog is nothing to parishes", x.parishes(0, 1, 0, 2, 0), 1);
        Check.due("fog is nothing to parishes, the first", x.parishes(0, 1, 0, 2, 1), 1);
    }

    private static long drawn(long z, long k) {
        long x = 7919L * z + 6151L * k + 1L;
        return x * x % 65521L / 8L;
    }

    private static final String YEAR_ROAD = "n8;p2,44;p3,12;w0,2;w2,9;w4,3;t2,60;t5,5;t0,33;t6,48;";

    /** A year as it is walked on a moor of which nothing is told; fog is a window shut for the walk. */
    private static void yearAsWalked(int z, int n) {
        StraightWhenAlone x = Check.laid(YEAR_ROAD);
        int due = x.year(z, n, 0);
        int dueNights = x.year(z, n, 1);
        int nights = 0;
        for (int k = 0; k < n; k++) {
            int draw = (int) drawn(z, k);
            int t = draw / 8 % 4;
            boolean foggy = draw / 64 % 4 == 0;
            if (draw % 4 == 3) {
                nights++;
            } else {
                if (foggy) {
                    x.shut(t, true);
                }
                x.walk(draw % 4, t);
                if (foggy) {
                    x.shut(t, false);
                }
            }
            x.pass(1);
        }
        Check.due("year(" + z + ", " + n + ", 0)", due, x.length());
        Check.due("year(" + z + ", " + n + ", 1)", dueNights, nights);
    }

    private static void yearsFrom0To9999() {
        StraightWhenAlone x = new StraightWhenAlone();
        Check.edges("year", 0, 9999, z -> x.year(z, 60, 0));
        for (int z : new int[] {0, 1, 2, 271, 272, 5000, 9998, 9999}) {
            yearAsWalked(z, 60);
        }
    }

    private static void yearsOf1To60Days() {
        StraightWhenAlone x = new StraightWhenAlone();
        Check.edges("days of a year", 1, 60, n -> x.year(5, n, 0));
        Check.edges("what of a year", 0, 1, what -> x.year(5, 1, what));
        for (int n : new int[] {1, 2, 3, 59, 60}) {
            yearAsWalked(123, n);
        }
        Check.due("no day has gone by", x.count(3), 0);
        Check.due("nothing can be undone", x.count(7), 0);
    }

    private static void yearsInPlaceOfWhatIsTold() {
        StraightWhenAlone plain = Check.laid(YEAR_ROAD);
        StraightWhenAlone told = Check.laid(YEAR_ROAD + "d0,0,0;d1,1,1;d2,2,2;d3,0,3;d4,1,0;f0,4;f6,9;");
        StraightWhenAlone later = Check.laid("n8;p2,47;p3,9;w0,2;w2,9;w4,3;t2,60;t5,5;t0,33;t6,48;");
        later.pass(3);
        for (int z = 0; z < 40; z++) {
            for (int what = 0; what <= 1; what++) {
                int due = plain.year(z, z + 1, what);
                Check.due("what is told is nothing to a year", told.year(z, z + 1, what), due);
                Check.due("days gone by are nothing to a year", later.year(z, z + 1, what), due);
            }
        }
    }

    private static void yearsBehindShutWindows() {
        StraightWhenAlone x = Check.laid("n5;p2,60;w0,0;t2,60;");
        x.shut(0, true);
        for (int z = 0; z < 30; z++) {
            int nights = 0;
            for (int k = 0; k < 20; k++) {
                nights += drawn(z, k) % 2 == 1 ? 1 : 0;
            }
            Check.due("shut, but walked: nights", x.year(z, 20, 1), nights);
            Check.due("shut, but walked: as long", x.year(z, 20, 0), 40 + 2 * (30 - nights));
        }
    }

    private static void yearsWithoutWalkersOrThings() {
        for (String text : new String[] {"n5;p2,60;", "n5;p2,60;w0,0;w0,0;w0,0;w0,0;", "n5;p2,60;t2,60;"}) {
            StraightWhenAlone x = Check.laid(text);
            Check.due("a day: nights", x.year(0, 1, 1), 1);
            Check.due("a day: as long", x.year(0, 1, 0), 98);
            Check.due("29 days: as long", x.year(7, 29, 0), 42);
            Check.due("30 days: as long", x.year(7, 30, 0), 40);
            Check.due("60 days: as long", x.year(7, 60, 0), 40);
            Check.due("60 days: nights", x.year(7, 60, 1), 60);
        }
    }

    private static void yearsOfADay() {
        // there is one walker: an even draw is that one, an odd one nobody
        for (int z = 0; z < 60; z++) {
            StraightWhenAlone x = Check.laid("n5;p2,40;w0,0;t2,60;t2,0;");
            int draw = (int) drawn(z, 0);
            boolean walked = draw % 2 == 0;
            boolean foggy = draw / 64 % 4 == 0;
            int yard = !walked ? 39 : foggy ? 40 : draw / 8 % 2 == 0 ? 41 : 39;
            Check.due("a day of year " + z, x.year(z, 1, 0), 40 + 2 * (yard - 30));
            Check.due("a night of year " + z, x.year(z, 1, 1), walked ? 0 : 1);
        }
    }

    private static void twoKeptAtMost() {
        StraightWhenAlone x = Check.laid("n5;p2,40;w0,0;t2,60;");
        Check.due("none kept", x.back(), Check.NO);
        Check.due("one", x.keep(), 1);
        x.pass(1);
        Check.due("two", x.keep(), 2);
        x.pass(1);
        Check.due("three", x.keep(), Check.FULL);
        Check.due("two are kept", x.count(8), 2);
        Check.due("back", x.back(), 1);
        Check.due("the third was not kept", x.count(3), 1);
        Check.due("one more can be kept", x.keep(), 2);
        Check.due("and no more", x.keep(), Check.FULL);
        Check.due("back", x.back(), 1);
        Check.due("back", x.back(), 0);
        Check.due("none left", x.back(), Check.NO);
        Check.due("none kept", x.count(8), 0);
    }

    private static void backAsKeptLast() {
        StraightWhenAlone x = Check.laid("n5;p2,40;w0,0;t2,60;");
        x.keep();
        x.walk(0, 0);
        x.keep();
        x.walk(0, 0);
        x.back();
        Check.due("the last one", x.post(2), 41);
        x.walk(0, 0);
        x.walk(0, 0);
        x.back();
        Check.due("the first one", x.post(2), 40);
        x.walk(0, 0);
        Check.due("none", x.back(), Check.NO);
        Check.due("it stays as it is", x.post(2), 41);
    }

    private static void backLeavesNothingUndone() {
        StraightWhenAlone x = Check.laid("n5;p2,40;w0,0;t2,60;");
        x.walk(0, 0);
        x.walk(0, 0);
        Check.due("keep leaves what can be undone", x.keep() * 10 + x.count(7), 12);
        Check.due("undo leaves what is kept", x.undo() * 10 + x.count(8), 11);
        x.back();
        Check.due("back", x.post(2), 42);
        Check.due("nothing can be undone", x.count(7), 0);
        Check.due("undo", x.undo(), Check.NO);
        x.walk(0, 0);
        Check.due("what comes then can be", x.undo(), 0);
        x.walk(0, 0);
        Check.due("back in vain", x.back(), Check.NO);
        Check.due("it can still be undone", x.count(7), 1);
    }

    private static void keptIsAllOfTheRoad() {
        StraightWhenAlone x = Check.laid("n5;p1,10;p2,40;p3,50;w0,0;t2,60;t3,60;");
        x.pass(5);
        x.shut(1, true);
        x.walk(0, 0);
        x.keep();
        x.shut(0, true);
        x.shut(1, false);
        x.pass(7);
        x.bent(1, 1);
        x.found(1, 1, 1);
        x.back();
        Check.postsDue("posts", x, 30, 15, 36, 45, 30);
        Check.due("days", x.count(3), 5);
        Check.due("window 0", x.thing(0, 2), 0);
        Check.due("window 1", x.thing(1, 2), 1);
        Check.due("windows", x.count(4), 1);
        Check.due("walked", x.count(10), 1);
        Check.due("bent stays", x.count(5), 1);
        Check.due("found stays", x.count(6), 1);
        Check.due("the text stays", x.count(9), 38);
        x.pass(1);
        Check.postsDue("no night, as it was walked", x, 30, 15, 36, 45, 30);
    }

    private static void countsFrom0To10() {
        IntUnaryOperator count = new StraightWhenAlone()::count;
        Check.edges("count", 0, 10, count);
        StraightWhenAlone least = Check.laid("n5;");
        int[] lows = {5, 0, 0, 0, 0, 0, 0, 0, 0, 3, 0};
        for (int what = 0; what <= 10; what++) {
            Check.due("the least, count(" + what + ")", least.count(what), lows[what]);
        }
        StraightWhenAlone most = Check.laid("n16;w0,0;w0,0;w0,0;w0,0;" + SIX_THINGS);
        for (int k = 0; k < 6; k++) {
            most.bent(0, 0);
            most.found(0, 1, 0);
            most.shut(k, true);
        }
        most.pass(20);
        most.pass(20);
        most.walk(0, 0);
        most.keep();
        most.keep();
        int[] highs = {16, 4, 6, 40, 6, 6, 6, 8, 2, most.count(9), 1};
        for (int what = 0; what <= 10; what++) {
            Check.due("the most, count(" + what + ")", most.count(what), highs[what]);
        }
        Check.due("letters", most.count(9), 4 + 20 + SIX_THINGS.length());
    }
}
