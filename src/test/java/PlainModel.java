import java.util.ArrayDeque;
import java.util.ArrayList;
import java.util.Arrays;
import java.util.Deque;
import java.util.List;
import java.util.regex.Matcher;
import java.util.regex.Pattern;

/** The document once more, told as plainly as the Java library lets it be; random runs are held against it. */
final class PlainModel {
    private static final Pattern ITEM = Pattern.compile("([npwtdf])(\\d\\d?)(?:,(\\d\\d?))?(?:,(\\d\\d?))?;");

    private record Walker(int kind, int reach) { }

    private record Thing(int post, int yard) { }

    private record Told(int day, int walker, int thing) { }

    private record Clue(int post, int time, int yard) { }

    private static final class Laid {
        int[] yards = flat(9);
        final List<Walker> walkers = new ArrayList<>();
        final List<Thing> things = new ArrayList<>();
        final List<Told> told = new ArrayList<>();
        final List<int[]> fogs = new ArrayList<>();
        int fault = -4;

        static int[] flat(int n) {
            int[] yards = new int[n];
            Arrays.fill(yards, 30);
            return yards;
        }

        boolean foggy(int day) {
            return fogs.stream().anyMatch(f -> f[0] <= day % 10 && day % 10 <= f[1]);
        }
    }

    private static final class State {
        int[] yards;
        int days;
        boolean[] shut = new boolean[6];
        boolean walked;

        State copy() {
            State s = new State();
            s.yards = yards.clone();
            s.days = days;
            s.shut = shut.clone();
            s.walked = walked;
            return s;
        }

        int size() {
            return (int) java.util.stream.IntStream.range(0, 6).filter(t -> shut[t]).count();
        }
    }

    private String text = "";
    private Laid moor;
    private State state = new State();
    private final Deque<State> undone = new ArrayDeque<>();
    private final Deque<State> kept = new ArrayDeque<>();
    private final List<Clue> bents = new ArrayList<>();
    private final List<Clue> founds = new ArrayList<>();

    PlainModel() {
        moor = read("n9;p3,34;p4,36;p5,33;w0,2;w2,3;w3,9;t3,50;t6,10;t1,30;"
            + "d0,0,0;d2,1,1;d3,0,1;d3,2,2;d6,0,0;f4,6;");
        state.yards = moor.yards.clone();
    }

    private static Laid read(String text) {
        Laid m = new Laid();
        boolean onlyN = true;
        int place = 0;
        Matcher item = ITEM.matcher(text);
        while (place < text.length()) {
            item.region(place, text.length());
            if (!item.lookingAt() || !fits(m, item, onlyN)) {
                m.fault = place;
                return m;
            }
            onlyN &= item.group(1).equals("n");
            place = item.end();
        }
        return m;
    }

    private static boolean fits(Laid m, Matcher item, boolean onlyN) {
        int many = item.group(4) != null ? 3 : item.group(3) != null ? 2 : 1;
        int a = Integer.parseInt(item.group(2));
        int b = many > 1 ? Integer.parseInt(item.group(3)) : 0;
        int c = many > 2 ? Integer.parseInt(item.group(4)) : 0;
        int n = m.yards.length;
        switch (item.group(1)) {
            case "n":
                if (many != 1 || !onlyN || a < 5 || a > 16) return false;
                m.yards = Laid.flat(a);
                return true;
            case "p":
                if (many != 2 || a < 1 || a > n - 2 || b > 60) return false;
                m.yards[a] = b;
                return true;
            case "w":
                return many == 2 && a <= 4 && b <= 9 && m.walkers.size() < 4 && m.walkers.add(new Walker(a, b));
            case "t":
                return many == 2 && a < n && b <= 60 && m.things.size() < 6 && m.things.add(new Thing(a, b));
            case "d":
                return many == 3 && a <= 9 && b < m.walkers.size() && c < m.things.size()
                    && m.told.size() < 8 && m.told.add(new Told(a, b, c));
            default:
                return many == 2 && a <= 9 && b <= 9 && a <= b && m.fogs.size() < 2 && m.fogs.add(new int[] {a, b});
        }
    }

    private int bend(State s, int w, int t) {
        Walker walker = moor.walkers.get(w);
        Thing thing = moor.things.get(t);
        if (s.shut[t]) return 0;
        int moved = 0;
        for (int i = 1; i <= s.yards.length - 2; i++) {
            if (Math.abs(i - thing.post) > walker.reach) continue;
            if (walker.kind == 1 && i != thing.post) continue;
            int y = s.yards[i];
            int to = y + Integer.signum(thing.yard - y);
            if (walker.kind == 2 && i % 2 == 0) {
                to = Math.min(60, Math.max(0, thing.yard == y ? y + 1 : y - Integer.signum(thing.yard - y)));
            } else if (walker.kind == 3) {
                to = y + Integer.signum(30 - y);
            } else if (walker.kind == 4) {
                int by = Math.min(3, Math.min(Math.abs(y - s.yards[i - 1]), Math.abs(y - thing.yard)));
                to = y + by * Integer.signum(thing.yard - y);
            }
            moved += Math.abs(to - y);
            s.yards[i] = to;
        }
        return moved;
    }

    private void goDay(State s, boolean fog) {
        for (Told told : moor.told) {
            if (told.day == s.days % 10) {
                s.walked = true;
                if (!fog) bend(s, told.walker, told.thing);
            }
        }
        night(s);
    }

    private boolean night(State s) {
        boolean alone = !s.walked;
        for (int i = 0; alone && i < s.yards.length; i++) {
            s.yards[i] += Integer.signum(30 - s.yards[i]);
        }
        s.days++;
        s.walked = false;
        return alone;
    }

    private State later(State from, int n) {
        State s = from.copy();
        for (int k = 0; k < n; k++) goDay(s, moor.foggy(s.days));
        return s;
    }

    private static int longOf(State s) {
        int sum = 10 * (s.yards.length - 1);
        for (int i = 0; i + 1 < s.yards.length; i++) sum += Math.abs(s.yards[i] - s.yards[i + 1]);
        return sum;
    }

    private boolean noPost(int i) {
        return i < 0 || i >= moor.yards.length;
    }

    private boolean noWalker(int w) {
        return w < 0 || w >= moor.walkers.size();
    }

    private boolean noThing(int t) {
        return t < 0 || t >= moor.things.size();
    }

    private static boolean off(int x, int low, int high) {
        return x < low || x > high;
    }

    private void remember() {
        undone.push(state.copy());
        if (undone.size() > 8) undone.removeLast();
    }

    int write(int letter) {
        if (off(letter, 32, 126)) return -1;
        if (text.length() == 200) return -3;
        text += (char) letter;
        return text.length();
    }

    int wipe() {
        int was = text.length();
        text = "";
        return was;
    }

    int fault() {
        return read(text).fault;
    }

    int lay() {
        Laid m = read(text);
        if (text.isEmpty() || m.fault != -4) return -2;
        moor = m;
        state = new State();
        state.yards = m.yards.clone();
        undone.clear();
        kept.clear();
        bents.clear();
        founds.clear();
        return m.yards.length;
    }

    int post(int i) {
        return noPost(i) ? -1 : state.yards[i];
    }

    int walker(int w, int what) {
        if (noWalker(w) || off(what, 0, 1)) return -1;
        return what == 0 ? moor.walkers.get(w).kind : moor.walkers.get(w).reach;
    }

    int thing(int t, int what) {
        if (noThing(t) || off(what, 0, 2)) return -1;
        return new int[] {moor.things.get(t).post, moor.things.get(t).yard, state.shut[t] ? 1 : 0}[what];
    }

    int day(int d, int what) {
        if (off(d, 0, 199) || off(what, 0, 1)) return -1;
        return what == 0 ? (int) moor.told.stream().filter(x -> x.day == d % 10).count() : moor.foggy(d) ? 1 : 0;
    }

    int pass(int n) {
        if (off(n, 1, 20)) return -1;
        remember();
        state = later(state, n);
        return state.days;
    }

    int walk(int w, int t) {
        if (noWalker(w) || noThing(t)) return -1;
        remember();
        state.walked = true;
        return moor.foggy(state.days) ? 0 : bend(state, w, t);
    }

    int shut(int t, boolean shut) {
        if (noThing(t)) return -1;
        if (state.shut[t] == shut) return -2;
        remember();
        state.shut[t] = shut;
        return state.size();
    }

    int undo() {
        if (undone.isEmpty()) return -2;
        state = undone.pop();
        return undone.size();
    }

    int length() {
        return longOf(state);
    }

    int crooks(int what) {
        if (off(what, 0, 1)) return -1;
        int[] y = state.yards;
        int many = 0;
        for (int i = 0; i + 1 < y.length; i++) {
            if (what == 1) {
                many += Math.abs(y[i] - y[i + 1]) >= 4 ? 1 : 0;
            } else if (i > 0) {
                many += y[i] > y[i - 1] && y[i] > y[i + 1] || y[i] < y[i - 1] && y[i] < y[i + 1] ? 1 : 0;
            }
        }
        return many;
    }

    int milestone(int k) {
        if (off(k, 1, 99)) return -1;
        if (longOf(state) < 20 * k) return -4;
        int along = 0;
        for (int i = 0; i + 1 < state.yards.length; i++) {
            along += 10 + Math.abs(state.yards[i] - state.yards[i + 1]);
            if (along > 20 * k) return i;
        }
        return state.yards.length - 1;
    }

    int behind(int n, int i) {
        if (off(n, 0, 40) || i != -1 && noPost(i)) return -1;
        State s = later(state, n);
        return i == -1 ? longOf(s) : s.yards[i];
    }

    private interface Goal {
        boolean met(State s);
    }

    /** The fewest, level by level; the rows of a level stand in their order. */
    private List<Integer> fewest(Goal goal) {
        List<State> level = new ArrayList<>(List.of(state));
        List<List<Integer>> rows = new ArrayList<>(List.of(List.of()));
        for (int size = 0; size <= 3; size++) {
            for (int k = 0; k < level.size(); k++) {
                if (goal.met(level.get(k))) return rows.get(k);
            }
            List<State> nextLevel = new ArrayList<>();
            List<List<Integer>> nextRows = new ArrayList<>();
            for (int k = 0; size < 3 && k < level.size(); k++) {
                for (int w = 0; w < moor.walkers.size(); w++) {
                    for (int t = 0; t < moor.things.size(); t++) {
                        State s = level.get(k).copy();
                        bend(s, w, t);
                        nextLevel.add(s);
                        List<Integer> row = new ArrayList<>(rows.get(k));
                        row.add(10 * w + t);
                        nextRows.add(row);
                    }
                }
            }
            level = nextLevel;
            rows = nextRows;
        }
        return null;
    }

    int door(int i, int yard, int k) {
        if (noPost(i) || off(yard, 0, 60) || off(k, 0, 3)) return -1;
        List<Integer> row = fewest(s -> s.yards[i] == yard);
        if (row == null) return -4;
        if (k == 0) return row.size();
        return k > row.size() ? -4 : row.get(k - 1);
    }

    int mile(int m) {
        if (off(m, 0, 999)) return -1;
        List<Integer> row = fewest(s -> longOf(s) >= m);
        return row == null ? -4 : row.size();
    }

    int window(int n, int what) {
        if (off(n, 1, 20) || off(what, 0, 1)) return -1;
        int best = -4;
        int bestLong = longOf(later(state, n));
        for (int t = 0; t < moor.things.size(); t++) {
            State s = state.copy();
            if (s.shut[t]) continue;
            s.shut[t] = true;
            int l = longOf(later(s, n));
            if (l < bestLong) {
                bestLong = l;
                best = t;
            }
        }
        return best == -4 ? -4 : what == 0 ? best : bestLong;
    }

    int bent(int i, int yard) {
        if (noPost(i) || off(yard, 0, 60)) return -1;
        if (bents.size() == 6) return -3;
        bents.add(new Clue(i, 1, yard));
        return bents.size();
    }

    int found(int i, int t, int yard) {
        if (noPost(i) || off(t, 1, 10) || off(yard, 0, 60)) return -1;
        if (founds.size() == 6) return -3;
        founds.add(new Clue(i, t, yard));
        return founds.size();
    }

    int forget() {
        int were = bents.size() + founds.size();
        bents.clear();
        founds.clear();
        return were;
    }

    int looked(int what) {
        if (off(what, 0, 1)) return -1;
        List<Integer> all = new ArrayList<>();
        for (int w = 0; w < moor.walkers.size(); w++) {
            for (int t = 0; t < moor.things.size(); t++) {
                State s = state.copy();
                bend(s, w, t);
                if (bents.stream().allMatch(c -> s.yards[c.post] == c.yard)) all.add(10 * w + t);
            }
        }
        return what == 0 ? all.size() : all.isEmpty() ? -4 : all.get(0);
    }

    int fog() {
        int bits = 0;
        for (int d = 0; d < 10; d++) {
            boolean all = true;
            for (Clue c : founds) {
                State s = state.copy();
                for (int k = 0; k < c.time; k++) goDay(s, k == d);
                all &= s.yards[c.post] == c.yard;
            }
            bits += all ? 1 << d : 0;
        }
        return bits;
    }

    private int high(int v, int a, int w, int b, int post) {
        State s = state.copy();
        bend(s, v, a);
        bend(s, w, b);
        return s.yards[post];
    }

    int parishes(int v, int i, int w, int j, int what) {
        if (noWalker(v) || noPost(i) || noWalker(w) || noPost(j) || i == j || off(what, 0, 1)) return -1;
        List<Integer> all = new ArrayList<>();
        for (int a = 0; a < moor.things.size(); a++) {
            for (int b = 0; b < moor.things.size(); b++) {
                boolean rests = true;
                for (int t = 0; t < moor.things.size(); t++) {
                    rests &= high(v, t, w, b, i) <= high(v, a, w, b, i) && high(v, a, w, t, j) <= high(v, a, w, b, j);
                }
                if (rests) all.add(10 * a + b);
            }
        }
        return what == 0 ? all.size() : all.isEmpty() ? -4 : all.get(0);
    }

    int year(int z, int n, int what) {
        if (off(z, 0, 9999) || off(n, 1, 60) || off(what, 0, 1)) return -1;
        State s = state.copy();
        int nights = 0;
        for (int k = 0; k < n; k++) {
            java.math.BigInteger x = java.math.BigInteger.valueOf(7919).multiply(java.math.BigInteger.valueOf(z))
                .add(java.math.BigInteger.valueOf(6151L * k + 1));
            int draw = x.multiply(x).mod(java.math.BigInteger.valueOf(65521)).intValue() / 8;
            int w = draw % (moor.walkers.size() + 1);
            if (w != moor.walkers.size() && !moor.things.isEmpty()) {
                s.walked = true;
                if (draw / 64 % 4 != 0) bend(s, w, draw / 8 % moor.things.size());
            }
            nights += night(s) ? 1 : 0;
        }
        return what == 0 ? longOf(s) : nights;
    }

    int keep() {
        if (kept.size() == 2) return -3;
        kept.push(state.copy());
        return kept.size();
    }

    int back() {
        if (kept.isEmpty()) return -2;
        state = kept.pop();
        undone.clear();
        return kept.size();
    }

    int count(int what) {
        if (off(what, 0, 10)) return -1;
        return new int[] {moor.yards.length, moor.walkers.size(), moor.things.size(), state.days, state.size(),
            bents.size(), founds.size(), undone.size(), kept.size(), text.length(), state.walked ? 1 : 0}[what];
    }
}
