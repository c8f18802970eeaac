/** Promises 14 to 16: LONG, CROOKS, KNOTS, MILESTONES. */
final class RoadTest {
    private RoadTest() {
    }

    public static void main(String[] args) {
        lengths();
        crooksAndKnots();
        milestones();
        Check.end("RoadTest");
    }

    private static void lengths() {
        Check.due("a straight one", Check.laid("n5;").length(), 40);
        Check.due("sixteen", Check.laid("n16;").length(), 150);
        Check.due("bent", Check.laid("n5;p1,33;p2,28;").length(), 40 + 3 + 5 + 2);
        StraightWhenAlone x = Check.laid("n5;p1,0;p2,60;p3,0;");
        Check.due("as long as can be", x.length(), 40 + 180);
        x.pass(1);
        Check.due("a night later", x.length(), 40 + 29 + 58 + 58 + 29);
    }

    private static void crooksAndKnots() {
        StraightWhenAlone flat = Check.laid("n5;");
        Check.due("no crooks", flat.crooks(0), 0);
        Check.due("no knots", flat.crooks(1), 0);
        StraightWhenAlone x = Check.laid("n9;p1,31;p2,30;p3,34;p4,34;p5,37;p6,40;p7,26;");
        Check.due("higher or lower than both", x.crooks(0), 4);
        Check.due("4 apart or more", x.crooks(1), 3);
        StraightWhenAlone plateau = Check.laid("n6;p2,33;p3,33;");
        Check.due("as high as one beside it", plateau.crooks(0), 0);
        Check.due("3 apart", plateau.crooks(1), 0);
        StraightWhenAlone ends = Check.laid("n5;p1,34;p3,26;");
        Check.due("beside the wells", ends.crooks(0), 2);
        Check.due("4 apart at the wells", ends.crooks(1), 4);
        Check.due("crooks(2)", ends.crooks(2), Check.BAD);
        Check.due("crooks(-1)", ends.crooks(-1), Check.BAD);
    }

    private static void milestones() {
        StraightWhenAlone x = Check.laid("n5;");
        Check.due("at a post", x.milestone(1), 2);
        Check.due("at the last well", x.milestone(2), 4);
        Check.due("beyond it", x.milestone(3), Check.NONE);
        Check.due("milestone(99)", x.milestone(99), Check.NONE);
        Check.due("milestone(0)", x.milestone(0), Check.BAD);
        Check.due("milestone(100)", x.milestone(100), Check.BAD);
        Check.due("milestone(-1)", x.milestone(-1), Check.BAD);
        // posts are 0, 40, 50, 60, 100 along
        StraightWhenAlone y = Check.laid("n5;p1,60;p2,60;p3,60;");
        Check.due("behind the first well", y.milestone(1), 0);
        Check.due("just at one", y.milestone(2), 1);
        Check.due("just at another", y.milestone(3), 3);
        Check.due("in a long gap", y.milestone(4), 3);
        Check.due("at the end", y.milestone(5), 4);
        Check.due("beyond the end", y.milestone(6), Check.NONE);
        StraightWhenAlone z = Check.laid("n5;p1,31;");
        Check.due("a yard short", z.milestone(1), 1);
        Check.due("less long by two", z.milestone(2), 3);
    }
}
