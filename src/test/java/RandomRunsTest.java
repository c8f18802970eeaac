import java.util.Random;

/** All promises: runs of up to 512 calls, drawn by fixed seeds, answered as by the plain model. */
final class RandomRunsTest {
    private static final int RUNS = 1500;
    private static final int CALLS = 512;

    private final Random random;
    private final StraightWhenAlone x = new StraightWhenAlone();
    private final PlainModel model = new PlainModel();
    private final int run;
    private int calls = 0;

    private RandomRunsTest(int run) {
        this.run = run;
        this.random = new Random(run);
    }

    public static void main(String[] args) {
        for (int run = 0; run < RUNS; run++) {
            new RandomRunsTest(run).go();
        }
        Check.end("RandomRunsTest");
    }

    private void go() {
        while (calls < CALLS) {
            int what = random.nextInt(100);
            if (what < 2 && calls < CALLS - 220 && calls > 40 || calls == 0 && random.nextInt(5) > 0) {
                layAnother();
            } else {
                oneCall(random.nextInt(40));
            }
        }
    }

    private void layAnother() {
        due("wipe()", x.wipe(), model.wipe());
        String text = drawText();
        for (int k = 0; k < text.length() && k < 200; k++) {
            due("write(" + text.charAt(k) + ")", x.write(text.charAt(k)), model.write(text.charAt(k)));
        }
        due("fault() of " + text, x.fault(), model.fault());
        due("lay() of " + text, x.lay(), model.lay());
    }

    private String drawText() {
        StringBuilder text = new StringBuilder();
        int n = 9;
        if (random.nextInt(4) > 0) {
            n = 5 + random.nextInt(12);
            text.append('n').append(n).append(';');
        }
        for (int k = random.nextInt(8); k > 0; k--) {
            item(text, 'p', 1 + random.nextInt(n - 2), random.nextInt(61));
        }
        int walkers = random.nextInt(10) == 0 ? 0 : 1 + random.nextInt(4);
        for (int k = 0; k < walkers; k++) {
            item(text, 'w', random.nextInt(5), random.nextInt(10));
        }
        int things = random.nextInt(10) == 0 ? 0 : 1 + random.nextInt(6);
        for (int k = 0; k < things; k++) {
            item(text, 't', random.nextInt(n), random.nextInt(61));
        }
        for (int k = walkers * things == 0 ? 0 : random.nextInt(9); k > 0; k--) {
            item(text, 'd', random.nextInt(10), random.nextInt(walkers), random.nextInt(things));
        }
        for (int k = random.nextInt(3); k > 0; k--) {
            int from = random.nextInt(10);
            item(text, 'f', from, from + random.nextInt(10 - from));
        }
        if (random.nextInt(6) == 0) {
            spoil(text);
        }
        return text.toString();
    }

    private static void item(StringBuilder text, char letter, int... numbers) {
        text.append(letter);
        for (int k = 0; k < numbers.length; k++) {
            text.append(numbers[k]).append(k == numbers.length - 1 ? ';' : ',');
        }
    }

    private void spoil(StringBuilder text) {
        String signs = "npwtdf0123456789,,,;;; x";
        for (int k = random.nextInt(3); k >= 0 && text.length() > 0; k--) {
            int at = random.nextInt(text.length());
            char sign = signs.charAt(random.nextInt(signs.length()));
            switch (random.nextInt(3)) {
                case 0 -> text.setCharAt(at, sign);
                case 1 -> text.insert(at, sign);
                default -> text.deleteCharAt(at);
            }
        }
    }

    private int number(int many) {
        int rare = random.nextInt(60);
        if (rare == 0) {
            return -1 - random.nextInt(3);
        }
        if (rare == 1) {
            return many + random.nextInt(3);
        }
        if (rare == 2) {
            return random.nextInt();
        }
        return random.nextInt(Math.max(1, many));
    }

    private int anyPost() {
        return number(model.count(0));
    }

    private int anyWalker() {
        return number(model.count(1));
    }

    private int anyThing() {
        return number(model.count(2));
    }

    /** Mostly a yard near the post, so that searches and clues have answers. */
    private int yardNear(int i) {
        int yard = model.post(i);
        return yard < 0 || random.nextInt(6) == 0 ? number(61) : yard + random.nextInt(9) - 4;
    }

    private void oneCall(int which) {
        int a = number(2);
        int i = anyPost();
        int w = anyWalker();
        int t = anyThing();
        int n = 1 + number(20);
        switch (which) {
            case 0 -> due("write", x.write(i + 95), model.write(i + 95));
            case 1 -> due("fault", x.fault(), model.fault());
            case 2 -> due("walker", x.walker(w, a), model.walker(w, a));
            case 3 -> due("thing", x.thing(t, a + i % 2), model.thing(t, a + i % 2));
            case 4 -> days();
            case 5, 6, 7 -> due("pass " + n, x.pass(n % 4), model.pass(n % 4));
            case 8 -> due("pass " + n, x.pass(n), model.pass(n));
            case 9, 10, 11, 12, 13, 14 -> due("walk " + w + "," + t, x.walk(w, t), model.walk(w, t));
            case 15, 16 -> due("shut " + t, x.shut(t, a == 0), model.shut(t, a == 0));
            case 17, 18 -> due("undo", x.undo(), model.undo());
            case 19 -> due("crooks", x.crooks(a), model.crooks(a));
            case 20 -> milestones();
            case 21 -> behindDays(i);
            case 22, 23, 24 -> doors(i);
            case 25 -> miles();
            case 26, 27 -> due("window " + n, x.window(n, a), model.window(n, a));
            case 28, 29 -> bents(i);
            case 30, 31 -> founds(i);
            case 32 -> due("forget", x.forget(), model.forget());
            case 33, 34 -> parishes(i, w, a);
            case 35 -> years(a);
            case 36 -> due("keep", x.keep(), model.keep());
            case 37 -> backSometimes();
            case 38 -> counts();
            default -> posts();
        }
    }

    private void days() {
        int d = number(200);
        int what = number(2);
        due("day " + d + "," + what, x.day(d, what), model.day(d, what));
    }

    private void milestones() {
        int k = 1 + number(random.nextBoolean() ? 99 : 15);
        due("milestone " + k, x.milestone(k), model.milestone(k));
    }

    private void behindDays(int i) {
        int n = number(41);
        int at = random.nextInt(4) == 0 ? -1 : i;
        due("behind " + n + "," + at, x.behind(n, at), model.behind(n, at));
    }

    private void doors(int i) {
        int yard = yardNear(i);
        int k = number(4);
        due("door " + i + "," + yard + "," + k, x.door(i, yard, k), model.door(i, yard, k));
    }

    private void miles() {
        int m = random.nextInt(4) == 0 ? number(1000) : model.length() - 5 + random.nextInt(50);
        due("mile " + m, x.mile(m), model.mile(m));
    }

    private void bents(int i) {
        int yard = yardNear(i);
        due("bent " + i + "," + yard, x.bent(i, yard), model.bent(i, yard));
        int what = number(2);
        due("looked " + what, x.looked(what), model.looked(what));
    }

    private void founds(int i) {
        int t = 1 + number(10);
        int yard = random.nextInt(3) == 0 ? yardNear(i) : Math.max(0, model.behind(t, i));
        due("found " + i + "," + t + "," + yard, x.found(i, t, yard), model.found(i, t, yard));
        due("fog", x.fog(), model.fog());
    }

    private void parishes(int i, int w, int what) {
        int v = anyWalker();
        int j = anyPost();
        due("parishes " + v + "," + i + "," + w + "," + j, x.parishes(v, i, w, j, what), model.parishes(v, i, w, j, what));
    }

    private void years(int what) {
        int z = number(10000);
        int n = 1 + number(60);
        due("year " + z + "," + n + "," + what, x.year(z, n, what), model.year(z, n, what));
    }

    private void backSometimes() {
        if (random.nextInt(2) == 0) {
            due("back", x.back(), model.back());
        }
    }

    private void counts() {
        for (int what = -1; what <= 11; what++) {
            due("count " + what, x.count(what), model.count(what));
        }
    }

    private void posts() {
        for (int i = -1; i <= model.count(0); i++) {
            due("post " + i, x.post(i), model.post(i));
        }
        due("length", x.length(), model.length());
    }

    private void due(String call, int got, int want) {
        calls++;
        if (got != want) {
            Check.due("run " + run + ", call " + calls + ": " + call, got, want);
            Check.end("RandomRunsTest");
        }
        Check.due(call, got, want);
    }
}
