import java.util.ArrayList;
import java.util.List;
import java.util.function.Supplier;
import java.util.function.ToIntFunction;

/**
 * "Nothing changes then": each call that is refused, and each that only asks, is made on one of two objects that have
 * seen the same; behind it both tell the same of all that is laid, done, kept, undone and written.
 */
final class RefusedTest {
    private static final int BAD = Check.BAD, NO = Check.NO, FULL = Check.FULL, NONE = Check.NONE;

    private final String state;
    private final Supplier<StraightWhenAlone> start;

    private RefusedTest(String state, Supplier<StraightWhenAlone> start) {
        this.state = state;
        this.start = start;
    }

    public static void main(String[] args) {
        List<RefusedTest> states = List.of(
            new RefusedTest("new", StraightWhenAlone::new),
            new RefusedTest("bare", () -> Check.laid("n5;")),
            new RefusedTest("midway", RefusedTest::midway),
            new RefusedTest("full", RefusedTest::full));
        for (RefusedTest state : states) {
            state.wrongNumbersOfMoors();
            state.wrongNumbersOfDays();
            state.wrongNumbersOfTheRoad();
            state.wrongNumbersOfWhatComes();
            state.wrongNumbersOfWhatWas();
            state.wrongNumbersOfParishesAndYears();
            state.onlyAsked();
        }
        states.get(0).notAsThingsStandWhenNew();
        states.get(1).notAsThingsStandWhenBare();
        states.get(2).notAsThingsStandMidway();
        states.get(3).notAsThingsStandWhenFull();
        new RefusedTest("text full", RefusedTest::textFull).textIsFull();
        Check.end("RefusedTest");
    }

    private static StraightWhenAlone midway() {
        StraightWhenAlone x = Check.laid("n6;p1,20;p4,44;w0,1;w4,9;t2,60;t4,0;d0,0,0;d2,1,1;f1,1;");
        x.pass(1);
        x.keep();
        x.shut(1, true);
        x.walk(1, 0);
        x.bent(2, 33);
        x.found(2, 3, 31);
        x.wipe();
        Check.writeAll(x, "n7;p3,4");
        return x;
    }

    private static StraightWhenAlone full() {
        StraightWhenAlone x = Check.laid("n6;p1,20;p4,44;w0,1;w4,9;t2,60;t4,0;d0,0,0;d2,1,1;f1,1;");
        for (int k = 0; k < 4; k++) {
            x.walk(k % 2, k % 2);
            x.pass(k + 1);
        }
        x.keep();
        x.shut(0, true);
        x.keep();
        x.walk(0, 0);
        for (int k = 0; k < 6; k++) {
            x.bent(k % 6, 30);
            x.found(k % 6, k + 1, 30);
        }
        x.wipe();
        Check.writeAll(x, "n7;p3,4");
        return x;
    }

    private static StraightWhenAlone textFull() {
        StraightWhenAlone x = new StraightWhenAlone();
        Check.writeAll(x, "n16;" + "p10,31;".repeat(28));
        Check.due("letters", x.count(9), 200);
        return x;
    }

    /** All that can be seen of an object; it is used up by it. */
    private static List<Integer> tell(StraightWhenAlone x) {
        List<Integer> told = new ArrayList<>();
        tellMoor(x, told);
        tellRoad(x, told);
        for (int k = 0, left = 0; k < 10 && left >= 0; k++) {
            left = x.undo();
            told.add(left);
            tellRoad(x, told);
        }
        for (int k = 0, left = 0; k < 4 && left >= 0; k++) {
            left = x.back();
            told.add(left);
            tellRoad(x, told);
        }
        told.add(x.fault());
        told.add(x.write(';'));
        told.add(x.fault());
        told.add(x.lay());
        tellRoad(x, told);
        return told;
    }

    private static void tellMoor(StraightWhenAlone x, List<Integer> told) {
        for (int what = 0; what <= 10; what++) {
            told.add(x.count(what));
        }
        for (int w = 0; w < x.count(1); w++) {
            told.add(x.walker(w, 0));
            told.add(x.walker(w, 1));
        }
        for (int t = 0; t < x.count(2); t++) {
            told.add(x.thing(t, 0));
            told.add(x.thing(t, 1));
        }
        for (int d = 0; d < 10; d++) {
            told.add(x.day(d, 0) * 10 + x.day(d, 1));
        }
        told.add(x.looked(0));
        told.add(x.looked(1));
        told.add(x.fog());
        told.add(x.behind(3, -1));
    }

    private static void tellRoad(StraightWhenAlone x, List<Integer> told) {
        int posts = x.count(0);
        for (int i = 1; i < posts - 1; i++) {
            told.add(x.post(i));
        }
        told.add(x.count(3));
        told.add(x.count(7) * 10 + x.count(8));
        told.add(x.count(10));
        told.add(x.thing(0, 2));
        told.add(x.thing(1, 2));
    }

    private void due(String name, int want, ToIntFunction<StraightWhenAlone> call) {
        StraightWhenAlone with = start.get();
        StraightWhenAlone without = start.get();
        Check.due(state + ": " + name, call.applyAsInt(with), want);
        Check.that(state + ": nothing changes by " + name, tell(with).equals(tell(without)));
    }

    private void bad(String name, ToIntFunction<StraightWhenAlone> call) {
        due(name, BAD, call);
    }

    private void asks(String name, ToIntFunction<StraightWhenAlone> call) {
        due(name, call.applyAsInt(start.get()), call);
    }

    private int posts() {
        return start.get().count(0);
    }

    private int walkers() {
        return start.get().count(1);
    }

    private int things() {
        return start.get().count(2);
    }

    private void wrongNumbersOfMoors() {
        int p = posts();
        int w = walkers();
        int t = things();
        bad("write(31)", x -> x.write(31));
        bad("write(127)", x -> x.write(127));
        bad("write(-1)", x -> x.write(-1));
        bad("post(-1)", x -> x.post(-1));
        bad("post(" + p + ")", x -> x.post(p));
        bad("walker(-1, 0)", x -> x.walker(-1, 0));
        bad("walker(" + w + ", 0)", x -> x.walker(w, 0));
        bad("walker(0, -1)", x -> x.walker(0, -1));
        bad("walker(0, 2)", x -> x.walker(0, 2));
        bad("thing(-1, 0)", x -> x.thing(-1, 0));
        bad("thing(" + t + ", 0)", x -> x.thing(t, 0));
        bad("thing(0, -1)", x -> x.thing(0, -1));
        bad("thing(0, 3)", x -> x.thing(0, 3));
        bad("day(-1, 0)", x -> x.day(-1, 0));
        bad("day(200, 0)", x -> x.day(200, 0));
        bad("day(0, -1)", x -> x.day(0, -1));
        bad("day(0, 2)", x -> x.day(0, 2));
    }

    private void wrongNumbersOfDays() {
        int w = walkers();
        int t = things();
        bad("pass(-1)", x -> x.pass(-1));
        bad("pass(0)", x -> x.pass(0));
        bad("pass(21)", x -> x.pass(21));
        bad("walk(-1, 0)", x -> x.walk(-1, 0));
        bad("walk(" + w + ", 0)", x -> x.walk(w, 0));
        bad("walk(0, -1)", x -> x.walk(0, -1));
        bad("walk(0, " + t + ")", x -> x.walk(0, t));
        bad("walk(" + w + ", " + t + ")", x -> x.walk(w, t));
        bad("shut(-1, true)", x -> x.shut(-1, true));
        bad("shut(-1, false)", x -> x.shut(-1, false));
        bad("shut(" + t + ", true)", x -> x.shut(t, true));
        bad("shut(" + t + ", false)", x -> x.shut(t, false));
    }

    private void wrongNumbersOfTheRoad() {
        bad("crooks(-1)", x -> x.crooks(-1));
        bad("crooks(2)", x -> x.crooks(2));
        bad("milestone(-1)", x -> x.milestone(-1));
        bad("milestone(0)", x -> x.milestone(0));
        bad("milestone(100)", x -> x.milestone(100));
    }

    private void wrongNumbersOfWhatComes() {
        int p = posts();
        bad("behind(-1, 0)", x -> x.behind(-1, 0));
        bad("behind(41, 0)", x -> x.behind(41, 0));
        bad("behind(1, -2)", x -> x.behind(1, -2));
        bad("behind(1, " + p + ")", x -> x.behind(1, p));
        bad("door(-1, 30, 0)", x -> x.door(-1, 30, 0));
        bad("door(" + p + ", 30, 0)", x -> x.door(p, 30, 0));
        bad("door(1, -1, 0)", x -> x.door(1, -1, 0));
        bad("door(1, 61, 0)", x -> x.door(1, 61, 0));
        bad("door(1, 30, -1)", x -> x.door(1, 30, -1));
        bad("door(1, 30, 4)", x -> x.door(1, 30, 4));
        bad("mile(-1)", x -> x.mile(-1));
        bad("mile(1000)", x -> x.mile(1000));
        bad("window(0, 0)", x -> x.window(0, 0));
        bad("window(21, 0)", x -> x.window(21, 0));
        bad("window(1, -1)", x -> x.window(1, -1));
        bad("window(1, 2)", x -> x.window(1, 2));
    }

    private void wrongNumbersOfWhatWas() {
        int p = posts();
        bad("bent(-1, 30)", x -> x.bent(-1, 30));
        bad("bent(" + p + ", 30)", x -> x.bent(p, 30));
        bad("bent(1, -1)", x -> x.bent(1, -1));
        bad("bent(1, 61)", x -> x.bent(1, 61));
        bad("found(-1, 1, 30)", x -> x.found(-1, 1, 30));
        bad("found(" + p + ", 1, 30)", x -> x.found(p, 1, 30));
        bad("found(1, 0, 30)", x -> x.found(1, 0, 30));
        bad("found(1, 11, 30)", x -> x.found(1, 11, 30));
        bad("found(1, 1, -1)", x -> x.found(1, 1, -1));
        bad("found(1, 1, 61)", x -> x.found(1, 1, 61));
        bad("looked(-1)", x -> x.looked(-1));
        bad("looked(2)", x -> x.looked(2));
    }

    private void wrongNumbersOfParishesAndYears() {
        int p = posts();
        int w = walkers();
        bad("parishes(-1, 1, 0, 2, 0)", x -> x.parishes(-1, 1, 0, 2, 0));
        bad("parishes(" + w + ", 1, 0, 2, 0)", x -> x.parishes(w, 1, 0, 2, 0));
        bad("parishes(0, -1, 0, 2, 0)", x -> x.parishes(0, -1, 0, 2, 0));
        bad("parishes(0, " + p + ", 0, 2, 0)", x -> x.parishes(0, p, 0, 2, 0));
        bad("parishes(0, 1, -1, 2, 0)", x -> x.parishes(0, 1, -1, 2, 0));
        bad("parishes(0, 1, " + w + ", 2, 0)", x -> x.parishes(0, 1, w, 2, 0));
        bad("parishes(0, 1, 0, -1, 0)", x -> x.parishes(0, 1, 0, -1, 0));
        bad("parishes(0, 1, 0, " + p + ", 0)", x -> x.parishes(0, 1, 0, p, 0));
        bad("parishes(0, 1, 0, 1, 0)", x -> x.parishes(0, 1, 0, 1, 0));
        bad("parishes(0, 1, 0, 2, -1)", x -> x.parishes(0, 1, 0, 2, -1));
        bad("parishes(0, 1, 0, 2, 2)", x -> x.parishes(0, 1, 0, 2, 2));
        bad("year(-1, 1, 0)", x -> x.year(-1, 1, 0));
        bad("year(10000, 1, 0)", x -> x.year(10000, 1, 0));
        bad("year(1, 0, 0)", x -> x.year(1, 0, 0));
        bad("year(1, 61, 0)", x -> x.year(1, 61, 0));
        bad("year(1, 1, -1)", x -> x.year(1, 1, -1));
        bad("year(1, 1, 2)", x -> x.year(1, 1, 2));
        bad("count(-1)", x -> x.count(-1));
        bad("count(11)", x -> x.count(11));
    }

    private void onlyAsked() {
        asks("fault", x -> x.fault());
        asks("length", x -> x.length());
        asks("crooks(0)", x -> x.crooks(0));
        asks("crooks(1)", x -> x.crooks(1));
        asks("milestone(1)", x -> x.milestone(1));
        due("milestone(99)", NONE, x -> x.milestone(99));
        asks("behind(40, 1)", x -> x.behind(40, 1));
        asks("behind(40, -1)", x -> x.behind(40, -1));
        asks("door(2, 31, 0)", x -> x.door(2, 31, 0));
        asks("door(2, 33, 3)", x -> x.door(2, 33, 3));
        due("door(0, 31, 0)", NONE, x -> x.door(0, 31, 0));
        asks("mile(99)", x -> x.mile(99));
        due("mile(999)", NONE, x -> x.mile(999));
        asks("window(1, 0)", x -> x.window(1, 0));
        asks("window(20, 1)", x -> x.window(20, 1));
        asks("looked(0)", x -> x.looked(0));
        asks("looked(1)", x -> x.looked(1));
        asks("fog", x -> x.fog());
        asks("parishes(0, 1, 0, 2, 0)", x -> x.parishes(0, 1, 0, 2, 0));
        asks("parishes(0, 3, 0, 2, 1)", x -> x.parishes(0, 3, 0, 2, 1));
        asks("year(77, 60, 0)", x -> x.year(77, 60, 0));
        asks("year(77, 60, 1)", x -> x.year(77, 60, 1));
    }

    private void notAsThingsStandWhenNew() {
        due("lay", NO, x -> x.lay());
        due("undo", NO, x -> x.undo());
        due("back", NO, x -> x.back());
        due("shut(0, false)", NO, x -> x.shut(0, false));
        due("shut(2, false)", NO, x -> x.shut(2, false));
        due("wipe nothing", 0, x -> x.wipe());
        due("forget nothing", 0, x -> x.forget());
    }

    private void notAsThingsStandWhenBare() {
        due("undo", NO, x -> x.undo());
        due("back", NO, x -> x.back());
        due("window(20, 0)", NONE, x -> x.window(20, 0));
        due("looked(0)", 0, x -> x.looked(0));
        due("looked(1)", NONE, x -> x.looked(1));
        due("forget nothing", 0, x -> x.forget());
    }

    private void notAsThingsStandMidway() {
        due("lay what has no end", NO, x -> x.lay());
        due("fault of it", 3, x -> x.fault());
        due("shut(0, false)", NO, x -> x.shut(0, false));
        due("shut(1, true)", NO, x -> x.shut(1, true));
    }

    private void notAsThingsStandWhenFull() {
        due("lay what has no end", NO, x -> x.lay());
        due("keep", FULL, x -> x.keep());
        due("bent(1, 30)", FULL, x -> x.bent(1, 30));
        due("bent(1, 29)", FULL, x -> x.bent(1, 29));
        due("found(1, 1, 30)", FULL, x -> x.found(1, 1, 30));
        due("found(2, 10, 0)", FULL, x -> x.found(2, 10, 0));
        due("shut(0, true)", NO, x -> x.shut(0, true));
        due("shut(1, false)", NO, x -> x.shut(1, false));
    }

    private void textIsFull() {
        due("write(32)", FULL, x -> x.write(32));
        due("write(126)", FULL, x -> x.write(126));
        bad("write(31)", x -> x.write(31));
        bad("write(127)", x -> x.write(127));
        due("fault", NONE, x -> x.fault());
    }
}
