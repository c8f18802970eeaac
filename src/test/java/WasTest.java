/** Promises 21 to 25: BENT, FOUND, LOOKED, FOG. */
final class WasTest {
    private WasTest() {
    }

    public static void main(String[] args) {
        telling();
        whoLooked();
        lookedFromNow();
        whenFog();
        fogFromNow();
        Check.end("WasTest");
    }

    private static void telling() {
        StraightWhenAlone x = Check.laid("n5;");
        Check.due("forget nothing", x.forget(), 0);
        for (int k = 1; k <= 6; k++) {
            Check.due("bent", x.bent(4, 60), k);
            Check.due("found", x.found(0, 10, 0), k);
        }
        Check.due("bent is full", x.bent(4, 60), Check.FULL);
        Check.due("found is full", x.found(0, 1, 0), Check.FULL);
        Check.due("bent full and wrong", x.bent(5, 60), Check.BAD);
        Check.due("found full and wrong", x.found(0, 0, 0), Check.BAD);
        Check.due("bent ones", x.count(5), 6);
        Check.due("found ones", x.count(6), 6);
        Check.due("forget", x.forget(), 12);
        Check.due("bent ones", x.count(5), 0);
        Check.due("found ones", x.count(6), 0);
        Check.due("bent(-1, 0)", x.bent(-1, 0), Check.BAD);
        Check.due("bent(0, -1)", x.bent(0, -1), Check.BAD);
        Check.due("bent(0, 61)", x.bent(0, 61), Check.BAD);
        Check.due("found(5, 1, 0)", x.found(5, 1, 0), Check.BAD);
        Check.due("found(-1, 1, 0)", x.found(-1, 1, 0), Check.BAD);
        Check.due("found(0, 11, 0)", x.found(0, 11, 0), Check.BAD);
        Check.due("found(0, 1, 61)", x.found(0, 1, 61), Check.BAD);
        Check.due("found(0, 1, -1)", x.found(0, 1, -1), Check.BAD);
        Check.due("bent again", x.bent(0, 0), 1);
        Check.due("found again", x.found(0, 1, 0), 1);
        Check.due("forget both", x.forget(), 2);
    }

    private static void whoLooked() {
        StraightWhenAlone x = Check.laid("n6;p3,40;w0,0;w0,1;w3,9;t3,60;t2,50;f0,9;");
        Check.due("nothing is bent: all", x.looked(0), 6);
        Check.due("nothing is bent: the first", x.looked(1), 0);
        x.bent(3, 41);
        Check.due("3 goes up", x.looked(0), 3);
        Check.due("3 goes up: the first", x.looked(1), 0);
        x.bent(2, 31);
        Check.due("2 too", x.looked(0), 2);
        Check.due("2 too: the first", x.looked(1), 10);
        x.bent(4, 30);
        Check.due("not 4", x.looked(0), 1);
        Check.due("not 4: the first", x.looked(1), 11);
        x.shut(1, true);
        Check.due("shut", x.looked(0), 0);
        Check.due("shut: the first", x.looked(1), Check.NONE);
        x.forget();
        x.bent(3, 40);
        Check.due("nothing bends, as it is shut", x.looked(0), 3);
        Check.due("nothing bends: the first", x.looked(1), 1);
        Check.due("looked(2)", x.looked(2), Check.BAD);
        Check.due("looked(-1)", x.looked(-1), Check.BAD);
        Check.due("nobody walked", x.count(10), 0);
        StraightWhenAlone none = Check.laid("n6;w0,1;");
        Check.due("no twos", none.looked(0), 0);
        Check.due("no twos: the first", none.looked(1), Check.NONE);
    }

    private static void lookedFromNow() {
        StraightWhenAlone x = Check.laid("n5;w0,0;t2,60;");
        x.bent(2, 32);
        Check.due("not yet", x.looked(0), 0);
        x.walk(0, 0);
        Check.due("from now", x.looked(0), 1);
        x.walk(0, 0);
        Check.due("no more", x.looked(0), 0);
        x.undo();
        Check.due("again", x.looked(0), 1);
    }

    private static void whenFog() {
        StraightWhenAlone x = Check.laid("n5;w0,0;t2,60;d0,0,0;d1,0,0;d2,0,0;f0,9;");
        Check.due("nothing found", x.fog(), 1023);
        x.found(2, 1, 31);
        Check.due("no fog today", x.fog(), 1022);
        x.found(2, 3, 32);
        Check.due("on day 1 or 2", x.fog(), 6);
        x.found(2, 2, 32);
        Check.due("on day 2", x.fog(), 4);
        x.found(2, 10, 30);
        Check.due("on day 2, and straight then", x.fog(), 4);
        x.found(1, 10, 31);
        Check.due("on none", x.fog(), 0);
        Check.due("nothing went by", x.count(3), 0);
    }

    private static void fogFromNow() {
        StraightWhenAlone x = Check.laid("n5;p2,40;w0,0;t2,60;d3,0,0;");
        x.pass(3);
        Check.due("post", x.post(2), 37);
        x.found(2, 1, 37);
        Check.due("this day is bit 0", x.fog(), 1);
        x.shut(0, true);
        Check.due("shut: on any", x.fog(), 1023);
        x.shut(0, false);
        x.pass(1);
        x.forget();
        x.walk(0, 0);
        x.found(2, 1, 39);
        Check.due("walked today, it stays", x.fog(), 1023);
        x.found(2, 10, 32);
        Check.due("the next walk is nine days on", x.fog(), 1023 - 512);
        x.undo();
        Check.due("nobody walked: it straightens", x.fog(), 0);
    }
}
