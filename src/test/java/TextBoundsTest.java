/** Section 1 of the document, sentence by sentence: each bound of a TEXT and of its ITEMS, on both its sides. */
final class TextBoundsTest {
    private static final String WALKERS = "w0,1;w1,1;w2,1;w3,1;";
    private static final String THINGS = "t1,1;t1,1;t1,1;t1,1;t1,1;t1,1;";

    private TextBoundsTest() {
    }

    public static void main(String[] args) {
        lettersThatAreTaken();
        twoHundredLettersAtMost();
        anItemCutOffByTheEnd();
        anItemBeginsWithOneOfSixLetters();
        numbersHaveOneOrTwoFigures();
        figuresAreFrom0To9();
        asManyNumbersAsTheItemHas();
        commasAndTheLastSign();
        fiveToSixteenPosts();
        nineWithoutN();
        noOtherItemAheadOfN();
        noWellIsMoved();
        yardsAreFrom0To60();
        thirtyWithoutAndTheLastOfEach();
        fiveKinds();
        reachFrom0To9();
        fourWalkersAtMost();
        aThingAtAnyPost();
        sixThingsAtMost();
        daysFrom0To9();
        walkerAndThingToldAhead();
        eightWalksToldAtMost();
        fogsFrom0To9();
        twoFogsAtMost();
        allOfThemFull();
        theFirstFaultOfSeveral();
        theEmptyText();
        Check.end("TextBoundsTest");
    }

    private static String times(int many, String item) {
        return item.repeat(many);
    }

    private static void lettersThatAreTaken() {
        StraightWhenAlone x = new StraightWhenAlone();
        Check.edges("write", 32, 126, x::write);
        Check.due("only the two taken ones are there", x.count(9), 2);
    }

    private static void twoHundredLettersAtMost() {
        String full = "n16;" + times(28, "p10,31;");
        StraightWhenAlone x = new StraightWhenAlone();
        Check.writeAll(x, full.substring(0, 199));
        Check.due("199 letters: the last item has no end", x.fault(), 193);
        Check.due("the 200th", x.write(';'), 200);
        Check.due("the 201st", x.write(';'), Check.FULL);
        Check.due("the 201st, wrong besides", x.write(127), Check.BAD);
        Check.due("200 letters", x.count(9), 200);
        Check.due("200 letters without fault", x.fault(), Check.NONE);
        Check.due("200 letters laid", x.lay(), 16);
        Check.due("the last item counts", x.post(10), 31);
        Check.due("wipe them", x.wipe(), 200);
        Check.due("write again", x.write('n'), 1);
    }

    private static void anItemCutOffByTheEnd() {
        String text = "n16;" + times(27, "p10,31;") + "p1,3;" + "p1";
        StraightWhenAlone x = new StraightWhenAlone();
        Check.writeAll(x, text + ",3;");
        Check.due("three letters did not fit", x.count(9), 200);
        Check.due("cut off", x.fault(), 198);
        Check.due("lay what is cut off", x.lay(), Check.NO);
        String item = "d1,0,0;";
        for (int k = 1; k < item.length(); k++) {
            Check.faultDue("w0,1;t1,1;" + item.substring(0, k), 10);
        }
    }

    private static void anItemBeginsWithOneOfSixLetters() {
        for (int sign = 32; sign <= 126; sign++) {
            boolean one = sign == 'n';
            boolean two = "pwtf".indexOf(sign) >= 0;
            Check.faultDue((char) sign + "5;", one ? Check.NONE : 0);
            Check.faultDue((char) sign + "1,1;", two ? Check.NONE : 0);
            Check.faultDue("w1,1;t1,1;" + (char) sign + "0,0,0;", sign == 'd' ? Check.NONE : 10);
            Check.faultDue((char) sign + ";", 0);
            Check.faultDue("n5;" + (char) sign, 3);
        }
    }

    private static void numbersHaveOneOrTwoFigures() {
        String[] heads = {"", "", "", "", "w0,0;t0,0;", ""};
        String[] items = {"n#;", "p#,#;", "w#,#;", "t#,#;", "d#,#,#;", "f#,#;"};
        int[] good = {5, 1, 1, 1, 0, 1};
        for (int k = 0; k < items.length; k++) {
            String plain = items[k].replace("#", String.valueOf(good[k]));
            Check.faultDue(heads[k] + plain, Check.NONE);
            Check.faultDue(heads[k] + items[k].replace("#", "0" + good[k]), Check.NONE);
            for (int at = 1; at < plain.length(); at += 2) {
                String ahead = heads[k] + plain.substring(0, at);
                Check.faultDue(ahead + "00" + plain.substring(at), heads[k].length());
                Check.faultDue(ahead + plain.substring(at + 1), heads[k].length());
                Check.faultDue(ahead + " " + plain.substring(at), heads[k].length());
                Check.faultDue(ahead + "-" + plain.substring(at), heads[k].length());
                Check.faultDue(ahead + "+" + plain.substring(at), heads[k].length());
            }
        }
    }

    private static void figuresAreFrom0To9() {
        for (char figure = '0'; figure <= '9'; figure++) {
            Check.faultDue("p1," + figure + ";", Check.NONE);
            StraightWhenAlone x = Check.laid("p1," + figure + ";p2,1" + figure + ";");
            Check.due("one figure", x.post(1), figure - '0');
            Check.due("two figures", x.post(2), 10 + figure - '0');
        }
        Check.faultDue("p1,/;", 0);
        Check.faultDue("p1,:;", 0);
        Check.faultDue("p1,1/;", 0);
        Check.faultDue("p1,1:;", 0);
    }

    private static void asManyNumbersAsTheItemHas() {
        Check.faultDue("n;", 0);
        Check.faultDue("n5,5;", 0);
        for (String letter : new String[] {"p", "w", "t", "f"}) {
            Check.faultDue(letter + ";", 0);
            Check.faultDue(letter + "1;", 0);
            Check.faultDue(letter + "1,1;", Check.NONE);
            Check.faultDue(letter + "1,1,1;", 0);
        }
        Check.faultDue("w0,1;t1,1;d;", 10);
        Check.faultDue("w0,1;t1,1;d0;", 10);
        Check.faultDue("w0,1;t1,1;d0,0;", 10);
        Check.faultDue("w0,1;t1,1;d0,0,0;", Check.NONE);
        Check.faultDue("w0,1;t1,1;d0,0,0,0;", 10);
    }

    private static void commasAndTheLastSign() {
        Check.faultDue("p1;1;", 0);
        Check.faultDue("p1 1;", 0);
        Check.faultDue("p1,,1;", 0);
        Check.faultDue("p,1,1;", 0);
        Check.faultDue("p1,1,;", 0);
        Check.faultDue("p1,1,", 0);
        Check.faultDue("p1,1:", 0);
        Check.faultDue("p1,1 ;", 0);
        Check.faultDue("p1,1;;", 5);
        Check.faultDue("p1,1; p1,1;", 5);
        Check.faultDue(" p1,1;", 0);
        Check.faultDue("p1,1p1,1;", 0);
        Check.faultDue("p1,1;p1,1", 5);
    }

    private static void fiveToSixteenPosts() {
        for (int n = 0; n <= 99; n++) {
            Check.faultDue("n" + n + ";", n >= 5 && n <= 16 ? Check.NONE : 0);
        }
        for (int n = 5; n <= 16; n++) {
            StraightWhenAlone x = Check.laid("n" + n + ";");
            Check.due("posts of n" + n, x.count(0), n);
            Check.due("lay of n" + n, x.lay(), n);
            Check.edges("post of n" + n, 0, n - 1, x::post);
        }
    }

    private static void nineWithoutN() {
        Check.due("lay without n", Check.laid("p1,1;").lay(), 9);
        Check.faultDue("p7,1;t8,1;", Check.NONE);
        Check.faultDue("p8,1;", 0);
        Check.faultDue("t9,1;", 0);
    }

    private static void noOtherItemAheadOfN() {
        Check.faultDue("n5;n6;n7;", Check.NONE);
        Check.due("the last n counts", Check.laid("n16;n5;").count(0), 5);
        Check.faultDue("n6;n4;", 3);
        for (String other : new String[] {"p1,1;", "w1,1;", "t1,1;", "f1,1;"}) {
            Check.faultDue(other + "n9;", 5);
            Check.faultDue("n9;" + other, Check.NONE);
            Check.faultDue("n9;" + other + "n9;", 8);
        }
        Check.faultDue("w1,1;t1,1;d1,0,0;n9;", 17);
    }

    private static void noWellIsMoved() {
        for (int n = 5; n <= 16; n++) {
            String head = "n" + n + ";";
            Check.faultDue(head + "p0,30;", head.length());
            Check.faultDue(head + "p1,30;", Check.NONE);
            Check.faultDue(head + "p" + (n - 2) + ",30;", Check.NONE);
            Check.faultDue(head + "p" + (n - 1) + ",30;", head.length());
            Check.faultDue(head + "p" + n + ",30;", head.length());
        }
        Check.faultDue("n16;p99,30;", 4);
    }

    private static void yardsAreFrom0To60() {
        for (String item : new String[] {"p1,", "t1,"}) {
            Check.faultDue(item + "0;", Check.NONE);
            Check.faultDue(item + "60;", Check.NONE);
            Check.faultDue(item + "61;", 0);
            Check.faultDue(item + "99;", 0);
        }
        StraightWhenAlone x = Check.laid("p1,0;p2,60;t1,0;t2,60;");
        Check.due("post at 0", x.post(1), 0);
        Check.due("post at 60", x.post(2), 60);
        Check.due("thing at 0", x.thing(0, 1), 0);
        Check.due("thing at 60", x.thing(1, 1), 60);
    }

    private static void thirtyWithoutAndTheLastOfEach() {
        Check.postsDue("none told", Check.laid("n5;"), 30, 30, 30, 30, 30);
        Check.postsDue("the last of each", Check.laid("n5;p1,1;p3,3;p1,0;p3,60;"), 30, 0, 30, 60, 30);
        Check.postsDue("the last one is 30", Check.laid("n5;p1,1;p1,30;"), 30, 30, 30, 30, 30);
    }

    private static void fiveKinds() {
        for (int kind = 0; kind <= 4; kind++) {
            Check.due("kind " + kind, Check.laid("w" + kind + ",1;").walker(0, 0), kind);
        }
        Check.faultDue("w5,1;", 0);
        Check.faultDue("w99,1;", 0);
    }

    private static void reachFrom0To9() {
        for (int reach = 0; reach <= 9; reach++) {
            Check.due("reach " + reach, Check.laid("w0," + reach + ";").walker(0, 1), reach);
        }
        Check.faultDue("w0,10;", 0);
        Check.faultDue("w0,99;", 0);
    }

    private static void fourWalkersAtMost() {
        for (int many = 0; many <= 4; many++) {
            StraightWhenAlone x = Check.laid("n5;" + WALKERS.substring(0, 5 * many));
            Check.due("walkers", x.count(1), many);
            Check.due("the one beyond the last", x.walker(many, 0), Check.BAD);
            if (many > 0) {
                Check.edges("walker", 0, many - 1, w -> x.walker(w, 0));
                Check.edges("what of a walker", 0, 1, what -> x.walker(0, what));
                Check.due("the last one", x.walker(many - 1, 0), many - 1);
            }
        }
        Check.faultDue(WALKERS + "w0,1;", 20);
        Check.faultDue(WALKERS + "t1,1;w0,1;", 25);
    }

    private static void aThingAtAnyPost() {
        for (int n = 5; n <= 16; n++) {
            String head = "n" + n + ";";
            StraightWhenAlone x = Check.laid(head + "t0,1;t" + (n - 1) + ",2;");
            Check.due("a thing at the first well", x.thing(0, 0), 0);
            Check.due("a thing at the last well", x.thing(1, 0), n - 1);
            Check.faultDue(head + "t" + n + ",1;", head.length());
        }
        Check.faultDue("n16;t99,1;", 4);
    }

    private static void sixThingsAtMost() {
        for (int many = 0; many <= 6; many++) {
            StraightWhenAlone x = Check.laid("n5;" + THINGS.substring(0, 5 * many));
            Check.due("things", x.count(2), many);
            Check.due("the one beyond the last", x.thing(many, 0), Check.BAD);
            if (many > 0) {
                Check.edges("thing", 0, many - 1, t -> x.thing(t, 0));
                Check.edges("what of a thing", 0, 2, what -> x.thing(0, what));
            }
        }
        Check.faultDue(THINGS + "t1,1;", 30);
        Check.faultDue(THINGS + "w1,1;t1,1;", 35);
    }

    private static void daysFrom0To9() {
        for (int d = 0; d <= 9; d++) {
            StraightWhenAlone x = Check.laid("w0,1;t1,1;d" + d + ",0,0;");
            for (int on = 0; on < 20; on++) {
                Check.due("told for " + d + ", day " + on, x.day(on, 0), on % 10 == d ? 1 : 0);
            }
        }
        Check.faultDue("w0,1;t1,1;d10,0,0;", 10);
        Check.faultDue("w0,1;t1,1;d99,0,0;", 10);
    }

    private static void walkerAndThingToldAhead() {
        String head = WALKERS + THINGS;
        Check.faultDue(head + "d0,3,0;", Check.NONE);
        Check.faultDue(head + "d0,4,0;", 50);
        Check.faultDue(head + "d0,0,5;", Check.NONE);
        Check.faultDue(head + "d0,0,6;", 50);
        Check.faultDue("t1,1;d0,0,0;", 5);
        Check.faultDue("w1,1;d0,0,0;", 5);
        Check.faultDue("d0,0,0;w1,1;t1,1;", 0);
        Check.faultDue("w1,1;t1,1;d0,1,0;w1,1;", 10);
        Check.faultDue("w1,1;t1,1;w1,1;d0,1,0;", Check.NONE);
        Check.faultDue("w1,1;t1,1;d0,0,1;t1,1;", 10);
        Check.faultDue("w1,1;t1,1;t1,1;d0,0,1;", Check.NONE);
    }

    private static void eightWalksToldAtMost() {
        String head = "w1,1;t1,1;";
        for (int many = 0; many <= 8; many++) {
            Check.due("walks told", Check.laid(head + times(many, "d7,0,0;")).day(7, 0), many);
        }
        Check.faultDue(head + times(9, "d7,0,0;"), 66);
        Check.faultDue(head + times(4, "d7,0,0;") + times(5, "d8,0,0;"), 66);
    }

    private static void fogsFrom0To9() {
        for (int a = 0; a <= 11; a++) {
            for (int b = 0; b <= 11; b++) {
                Check.faultDue("f" + a + "," + b + ";", b <= 9 && a <= b ? Check.NONE : 0);
            }
        }
        Check.faultDue("f0,99;", 0);
        Check.faultDue("f99,99;", 0);
        StraightWhenAlone x = Check.laid("f3,5;");
        for (int d = 0; d < 20; d++) {
            Check.due("fog on 3 to 5, day " + d, x.day(d, 1), d % 10 >= 3 && d % 10 <= 5 ? 1 : 0);
        }
    }

    private static void twoFogsAtMost() {
        Check.faultDue("f0,0;f9,9;", Check.NONE);
        Check.faultDue("f0,0;f9,9;f5,5;", 10);
        Check.faultDue("f0,0;f0,0;f0,0;", 10);
        StraightWhenAlone x = Check.laid("f0,0;f9,9;");
        for (int d = 0; d < 20; d++) {
            Check.due("fog on 0 and 9, day " + d, x.day(d, 1), d % 10 == 0 || d % 10 == 9 ? 1 : 0);
        }
        StraightWhenAlone both = Check.laid("f2,5;f4,7;");
        for (int d = 0; d < 10; d++) {
            Check.due("fogs over one another, day " + d, both.day(d, 1), d >= 2 && d <= 7 ? 1 : 0);
        }
        Check.due("no fog told", Check.laid("n5;").day(0, 1), 0);
    }

    private static void allOfThemFull() {
        String all = "n16;" + WALKERS + THINGS + times(8, "d9,3,5;") + "f0,4;f5,9;";
        Check.faultDue(all, Check.NONE);
        Check.faultDue(all + "p14,60;", Check.NONE);
        for (String more : new String[] {"n16;", "w0,0;", "t0,0;", "d0,0,0;", "f0,0;"}) {
            Check.faultDue(all + more, all.length());
            Check.faultDue(all + "p14,60;" + more, all.length() + 7);
        }
        StraightWhenAlone x = Check.laid(all);
        Check.due("posts", x.count(0), 16);
        Check.due("walkers", x.count(1), 4);
        Check.due("things", x.count(2), 6);
        Check.due("walks told", x.day(9, 0), 8);
        Check.due("walks told on another day", x.day(8, 0), 0);
        Check.due("a new text with fewer", layAnother(x, "n5;"), 5);
        Check.due("no walkers left", x.count(1), 0);
        Check.due("no things left", x.count(2), 0);
        Check.due("no walks left", x.day(9, 0), 0);
        Check.due("no fog left", x.day(0, 1), 0);
    }

    private static int layAnother(StraightWhenAlone x, String text) {
        x.wipe();
        Check.writeAll(x, text);
        return x.lay();
    }

    private static void theFirstFaultOfSeveral() {
        Check.faultDue("n9;p0,1;n4;w9,9;", 3);
        Check.faultDue("n99;n99;", 0);
        Check.faultDue("p1,1;n9;p1,1;n9;", 5);
        Check.faultDue("p1,1;p1,61;x", 5);
        // a faulty item is not there for those behind it, but it is the first one that counts
        Check.faultDue("w5,1;t1,1;d0,0,0;", 0);
    }

    private static void theEmptyText() {
        StraightWhenAlone x = new StraightWhenAlone();
        Check.due("fault of nothing", x.fault(), Check.NONE);
        Check.due("lay nothing", x.lay(), Check.NO);
        Check.due("wipe nothing", x.wipe(), 0);
        Check.due("the first road is still there", x.count(0), 9);
    }
}
