/** A road over a moor that is straight when nobody is on it; ../shared/DOC.md says what each call answers. */
public final class StraightWhenAlone {
    public static final int BAD = -1, NO = -2, FULL = -3, NONE = -4;

    private static final String FIRST_TEXT =
        "n9;p3,34;p4,36;p5,33;w0,2;w2,3;w3,9;t3,50;t6,10;t1,30;d0,0,0;d2,1,1;d3,0,1;d3,2,2;d6,0,0;f4,6;";

    private static final int MOST_LETTERS = 200;
    private static final int FEWEST_POSTS = 5, MOST_POSTS = 16, POSTS_UNTOLD = 9;
    private static final int MIDDLE_YARD = 30, TOP_YARD = 60;
    private static final int MOST_WALKERS = 4, MOST_REACH = 9;
    private static final int MOST_THINGS = 6;
    private static final int MOST_TOLD = 8, MOST_FOGS = 2, ROUND = 10;
    private static final int PLAIN = 0, BLINKERED = 1, SHEEP = 2, BLIND = 3, LOOKING_BACK = 4;
    private static final int MOST_LOOKING_BACK = 3;
    private static final int MOST_UNDONE = 8, MOST_KEPT = 2;
    private static final int MOST_CLUES = 6, MOST_WALKS = 3;
    private static final int POST_GAP = 10, KNOT = 4, MILESTONE_GAP = 20;

    private final Letters text = new Letters();
    private final Reader reader = new Reader(text);
    private final Moor moor = new Moor();
    /** A text may turn out faulty half way: it is tried out here, so that what is laid stays whole. */
    private final Moor draft = new Moor();
    private final Road now = new Road();
    private final Road trial = new Road();
    private final Shelf undone = new Shelf(MOST_UNDONE);
    private final Shelf kept = new Shelf(MOST_KEPT);
    private final Clues bentClues = new Clues();
    private final Clues foundClues = new Clues();
    private final Search search = new Search();
    private final int[] firstHeights = new int[MOST_THINGS * MOST_THINGS];
    private final int[] otherHeights = new int[MOST_THINGS * MOST_THINGS];

    public StraightWhenAlone() {
        for (int k = 0; k < FIRST_TEXT.length(); k++) {
            text.add(FIRST_TEXT.charAt(k));
        }
        reader.readInto(moor);
        text.clear();
        now.startOn(moor);
    }

    // ---- moors

    public int write(int letter) {
        if (!within(letter, 32, 126)) {
            return BAD;
        }
        return text.add(letter) ? text.size : FULL;
    }

    public int wipe() {
        int size = text.size;
        text.clear();
        return size;
    }

    public int fault() {
        return reader.readInto(draft);
    }

    public int lay() {
        if (text.size == 0 || reader.readInto(draft) != NONE) {
            return NO;
        }
        reader.readInto(moor);
        now.startOn(moor);
        undone.clear();
        kept.clear();
        bentClues.clear();
        foundClues.clear();
        return moor.posts;
    }

    public int post(int i) {
        return isPost(i) ? now.yards[i] : BAD;
    }

    public int walker(int w, int what) {
        if (!isWalker(w) || !within(what, 0, 1)) {
            return BAD;
        }
        return what == 0 ? moor.kinds[w] : moor.reaches[w];
    }

    public int thing(int t, int what) {
        if (!isThing(t) || !within(what, 0, 2)) {
            return BAD;
        }
        if (what == 2) {
            return now.isShut(t) ? 1 : 0;
        }
        return what == 0 ? moor.thingPosts[t] : moor.thingYards[t];
    }

    public int day(int d, int what) {
        if (!within(d, 0, 199) || !within(what, 0, 1)) {
            return BAD;
        }
        if (what == 0) {
            return moor.walksOn(d);
        }
        return moor.isFoggy(d) ? 1 : 0;
    }

    // ---- days

    public int pass(int n) {
        if (!within(n, 1, 20)) {
            return BAD;
        }
        undone.putOverOldest(now);
        now.goDays(moor, n);
        return now.days;
    }

    public int walk(int w, int t) {
        if (!isWalker(w) || !isThing(t)) {
            return BAD;
        }
        undone.putOverOldest(now);
        return now.takeWalk(moor, w, t, moor.isFoggy(now.days));
    }

    public int shut(int t, boolean shut) {
        if (!isThing(t)) {
            return BAD;
        }
        if (now.isShut(t) == shut) {
            return NO;
        }
        undone.putOverOldest(now);
        now.turnWindow(t);
        return now.shutWindows();
    }

    public int undo() {
        return undone.takeInto(now) ? undone.size : NO;
    }

    // ---- how the road is

    public int length() {
        return now.reckonLong();
    }

    public int crooks(int what) {
        if (!within(what, 0, 1)) {
            return BAD;
        }
        return what == 0 ? now.reckonCrooks() : now.reckonKnots();
    }

    public int milestone(int k) {
        if (!within(k, 1, 99)) {
            return BAD;
        }
        return now.postAhead(MILESTONE_GAP * k);
    }

    // ---- what comes

    public int behind(int n, int i) {
        if (!within(n, 0, 40) || i != -1 && !isPost(i)) {
            return BAD;
        }
        trial.copyFrom(now);
        trial.goDays(moor, n);
        return i == -1 ? trial.reckonLong() : trial.yards[i];
    }

    public int door(int i, int yard, int k) {
        if (!isPost(i) || !isYard(yard) || !within(k, 0, MOST_WALKS)) {
            return BAD;
        }
        int fewest = search.fewestWalks(moor, now, i, yard);
        if (k == 0) {
            return fewest;
        }
        return k <= fewest ? search.row[k - 1] : NONE;
    }

    public int mile(int m) {
        if (!within(m, 0, 999)) {
            return BAD;
        }
        return search.fewestWalks(moor, now, Search.WHOLE_ROAD, m);
    }

    public int window(int n, int what) {
        if (!within(n, 1, 20) || !within(what, 0, 1)) {
            return BAD;
        }
        trial.copyFrom(now);
        trial.goDays(moor, n);
        int least = trial.reckonLong();
        int best = NONE;
        for (int t = 0; t < moor.things; t++) {
            if (!now.isShut(t)) {
                int so = longIfShut(t, n);
                if (so < least) {
                    least = so;
                    best = t;
                }
            }
        }
        return what == 0 || best == NONE ? best : least;
    }

    // ---- what was

    public int bent(int i, int yard) {
        if (!isPost(i) || !isYard(yard)) {
            return BAD;
        }
        return bentClues.add(i, 1, yard) ? bentClues.size : FULL;
    }

    public int found(int i, int t, int yard) {
        if (!isPost(i) || !within(t, 1, 10) || !isYard(yard)) {
            return BAD;
        }
        return foundClues.add(i, t, yard) ? foundClues.size : FULL;
    }

    public int forget() {
        int were = bentClues.size + foundClues.size;
        bentClues.clear();
        foundClues.clear();
        return were;
    }

    public int looked(int what) {
        if (!within(what, 0, 1)) {
            return BAD;
        }
        int many = 0;
        int first = NONE;
        for (int w = 0; w < moor.walkers; w++) {
            for (int t = 0; t < moor.things; t++) {
                if (fitsBent(w, t)) {
                    first = many == 0 ? 10 * w + t : first;
                    many++;
                }
            }
        }
        return what == 0 ? many : first;
    }

    public int fog() {
        int bits = 0;
        for (int d = 0; d < ROUND; d++) {
            if (fitsFound(d)) {
                bits |= 1 << d;
            }
        }
        return bits;
    }

    // ---- parishes, years

    public int parishes(int v, int i, int w, int j, int what) {
        if (!isWalker(v) || !isPost(i) || !isWalker(w) || !isPost(j) || i == j || !within(what, 0, 1)) {
            return BAD;
        }
        reckonHeights(v, i, w, j);
        int many = 0;
        int first = NONE;
        for (int a = 0; a < moor.things; a++) {
            for (int b = 0; b < moor.things; b++) {
                if (contentsBoth(a, b)) {
                    first = many == 0 ? 10 * a + b : first;
                    many++;
                }
            }
        }
        return what == 0 ? many : first;
    }

    public int year(int z, int n, int what) {
        if (!within(z, 0, 9999) || !within(n, 1, 60) || !within(what, 0, 1)) {
            return BAD;
        }
        trial.copyFrom(now);
        int nights = 0;
        for (int k = 0; k < n; k++) {
            walkByDraw(drawOf(z, k));
            if (trial.goNight()) {
                nights++;
            }
        }
        return what == 0 ? trial.reckonLong() : nights;
    }

    public int keep() {
        return kept.put(now) ? kept.size : FULL;
    }

    public int back() {
        if (!kept.takeInto(now)) {
            return NO;
        }
        undone.clear();
        return kept.size;
    }

    public int count(int what) {
        switch (what) {
            case 0: return moor.posts;
            case 1: return moor.walkers;
            case 2: return moor.things;
            case 3: return now.days;
            case 4: return now.shutWindows();
            case 5: return bentClues.size;
            case 6: return foundClues.size;
            case 7: return undone.size;
            case 8: return kept.size;
            case 9: return text.size;
            case 10: return now.walked ? 1 : 0;
            default: return BAD;
        }
    }

    // ---- help for the calls

    private static boolean within(int number, int low, int high) {
        return number >= low && number <= high;
    }

    private static boolean isYard(int yard) {
        return within(yard, 0, TOP_YARD);
    }

    private boolean isPost(int i) {
        return within(i, 0, moor.posts - 1);
    }

    private boolean isWalker(int w) {
        return within(w, 0, moor.walkers - 1);
    }

    private boolean isThing(int t) {
        return within(t, 0, moor.things - 1);
    }

    private int longIfShut(int t, int n) {
        trial.copyFrom(now);
        trial.turnWindow(t);
        trial.goDays(moor, n);
        return trial.reckonLong();
    }

    private boolean fitsBent(int w, int t) {
        trial.copyFrom(now);
        trial.bendBy(moor, w, t);
        return bentClues.holdOn(trial, 1);
    }

    private boolean fitsFound(int foggyDay) {
        trial.copyFrom(now);
        for (int t = 1; t <= ROUND; t++) {
            trial.goDay(moor, t - 1 == foggyDay);
            if (!foundClues.holdOn(trial, t)) {
                return false;
            }
        }
        return true;
    }

    private void reckonHeights(int v, int i, int w, int j) {
        for (int a = 0; a < moor.things; a++) {
            for (int b = 0; b < moor.things; b++) {
                trial.copyFrom(now);
                trial.bendBy(moor, v, a);
                trial.bendBy(moor, w, b);
                firstHeights[a * MOST_THINGS + b] = trial.yards[i];
                otherHeights[a * MOST_THINGS + b] = trial.yards[j];
            }
        }
    }

    private boolean contentsBoth(int a, int b) {
        int first = firstHeights[a * MOST_THINGS + b];
        int other = otherHeights[a * MOST_THINGS + b];
        for (int t = 0; t < moor.things; t++) {
            if (firstHeights[t * MOST_THINGS + b] > first || otherHeights[a * MOST_THINGS + t] > other) {
                return false;
            }
        }
        return true;
    }

    private static int drawOf(int z, int k) {
        // the square is beyond an int
        long x = 7919L * z + 6151L * k + 1L;
        return (int) (x * x % 65521L / 8L);
    }

    private void walkByDraw(int draw) {
        int w = draw % (moor.walkers + 1);
        if (w < moor.walkers && moor.things > 0) {
            int t = draw / 8 % moor.things;
            trial.takeWalk(moor, w, t, draw / 64 % 4 == 0);
        }
    }

    /** THE TEXT, letter by letter. */
    private static final class Letters {
        private final int[] signs = new int[MOST_LETTERS];
        private int size;

        boolean add(int sign) {
            if (size >= MOST_LETTERS) {
                return false;
            }
            signs[size] = sign;
            size++;
            return true;
        }

        void clear() {
            size = 0;
        }

        /** The sign at a place; 0, which no letter is, where the text has ended. */
        int signAt(int place) {
            return place >= 0 && place < size ? signs[place] : 0;
        }
    }

    /** Reads a text item by item into a moor. */
    private static final class Reader {
        private static final int MOST_NUMBERS = 3;
        private static final int UNREADABLE = -1;

        private final Letters letters;
        private final int[] numbers = new int[MOST_NUMBERS];

        Reader(Letters letters) {
            this.letters = letters;
        }

        /** The place of the first item at fault, NONE if the moor took them all. */
        int readInto(Moor into) {
            into.clear();
            int place = 0;
            for (int items = 0; items < MOST_LETTERS && place < letters.size; items++) {
                int letter = letters.signAt(place);
                int next = readNumbers(place + 1, numbersBehind(letter));
                if (next == UNREADABLE || !into.takeItem(letter, numbers[0], numbers[1], numbers[2])) {
                    return place;
                }
                place = next;
            }
            return NONE;
        }

        private static int numbersBehind(int letter) {
            switch (letter) {
                case 'n': return 1;
                case 'p': case 'w': case 't': case 'f': return 2;
                case 'd': return 3;
                default: return 0;
            }
        }

        /** The place behind the item's last sign. */
        private int readNumbers(int from, int many) {
            if (many < 1 || many > MOST_NUMBERS) {
                return UNREADABLE;
            }
            int place = from;
            for (int k = 0; k < many; k++) {
                if (!isFigure(place)) {
                    return UNREADABLE;
                }
                int number = figureAt(place);
                place++;
                if (isFigure(place)) {
                    number = 10 * number + figureAt(place);
                    place++;
                }
                numbers[k] = number;
                if (letters.signAt(place) != (k == many - 1 ? ';' : ',')) {
                    return UNREADABLE;
                }
                place++;
            }
            return place;
        }

        private boolean isFigure(int place) {
            return within(letters.signAt(place), '0', '9');
        }

        private int figureAt(int place) {
            return letters.signAt(place) - '0';
        }
    }

    /** What a text tells; it does not change as days go by. */
    private static final class Moor {
        private int posts;
        private final int[] firstYards = new int[MOST_POSTS];
        private int walkers;
        private final int[] kinds = new int[MOST_WALKERS];
        private final int[] reaches = new int[MOST_WALKERS];
        private int things;
        private final int[] thingPosts = new int[MOST_THINGS];
        private final int[] thingYards = new int[MOST_THINGS];
        private int told;
        private final int[] toldDays = new int[MOST_TOLD];
        private final int[] toldWalkers = new int[MOST_TOLD];
        private final int[] toldThings = new int[MOST_TOLD];
        private int fogs;
        private int fogDays;
        /** An n is at fault behind any other item. */
        private boolean beyondPosts;

        void clear() {
            posts = POSTS_UNTOLD;
            walkers = 0;
            things = 0;
            told = 0;
            fogs = 0;
            fogDays = 0;
            beyondPosts = false;
            for (int i = 0; i < MOST_POSTS; i++) {
                firstYards[i] = MIDDLE_YARD;
            }
        }

        boolean takeItem(int letter, int a, int b, int c) {
            if (letter == 'n') {
                return takePosts(a);
            }
            beyondPosts = true;
            switch (letter) {
                case 'p': return takeFirstYard(a, b);
                case 'w': return takeWalker(a, b);
                case 't': return takeThing(a, b);
                case 'd': return takeTold(a, b, c);
                case 'f': return takeFog(a, b);
                default: return false;
            }
        }

        private boolean takePosts(int many) {
            if (beyondPosts || !within(many, FEWEST_POSTS, MOST_POSTS)) {
                return false;
            }
            posts = many;
            return true;
        }

        private boolean takeFirstYard(int i, int yard) {
            if (!within(i, 1, posts - 2) || !isYard(yard)) {
                return false;
            }
            firstYards[i] = yard;
            return true;
        }

        private boolean takeWalker(int kind, int reach) {
            if (walkers >= MOST_WALKERS || !within(kind, PLAIN, LOOKING_BACK) || !within(reach, 0, MOST_REACH)) {
                return false;
            }
            kinds[walkers] = kind;
            reaches[walkers] = reach;
            walkers++;
            return true;
        }

        private boolean takeThing(int i, int yard) {
            if (things >= MOST_THINGS || !within(i, 0, posts - 1) || !isYard(yard)) {
                return false;
            }
            thingPosts[things] = i;
            thingYards[things] = yard;
            things++;
            return true;
        }

        private boolean takeTold(int d, int w, int t) {
            if (told >= MOST_TOLD || !within(d, 0, ROUND - 1)
                || !within(w, 0, walkers - 1) || !within(t, 0, things - 1)) {
                return false;
            }
            toldDays[told] = d;
            toldWalkers[told] = w;
            toldThings[told] = t;
            told++;
            return true;
        }

        private boolean takeFog(int from, int to) {
            if (fogs >= MOST_FOGS || !within(from, 0, ROUND - 1) || !within(to, from, ROUND - 1)) {
                return false;
            }
            fogs++;
            for (int d = from; d <= to; d++) {
                fogDays |= 1 << d;
            }
            return true;
        }

        int walksOn(int d) {
            int many = 0;
            for (int k = 0; k < told; k++) {
                if (toldDays[k] == d % ROUND) {
                    many++;
                }
            }
            return many;
        }

        boolean isFoggy(int d) {
            return (fogDays >> d % ROUND & 1) == 1;
        }
    }

    /** The road as it stands on a day, with the windows and whether it is walked. */
    private static final class Road {
        private int posts;
        private final int[] yards = new int[MOST_POSTS];
        private int days;
        private int shutBits;
        private boolean walked;

        void startOn(Moor on) {
            posts = on.posts;
            System.arraycopy(on.firstYards, 0, yards, 0, MOST_POSTS);
            days = 0;
            shutBits = 0;
            walked = false;
        }

        void copyFrom(Road other) {
            posts = other.posts;
            System.arraycopy(other.yards, 0, yards, 0, MOST_POSTS);
            days = other.days;
            shutBits = other.shutBits;
            walked = other.walked;
        }

        boolean isShut(int t) {
            return (shutBits >> t & 1) == 1;
        }

        void turnWindow(int t) {
            shutBits ^= 1 << t;
        }

        int shutWindows() {
            return Integer.bitCount(shutBits);
        }

        void goDays(Moor on, int n) {
            for (int k = 0; k < n; k++) {
                goDay(on, on.isFoggy(days));
            }
        }

        void goDay(Moor on, boolean foggy) {
            for (int k = 0; k < on.told; k++) {
                if (on.toldDays[k] == days % ROUND) {
                    walked = true;
                    if (!foggy) {
                        bendBy(on, on.toldWalkers[k], on.toldThings[k]);
                    }
                }
            }
            goNight();
        }

        /** Whether it straightened: a night without walkers counts even if it was straight. */
        boolean goNight() {
            boolean alone = !walked;
            if (alone) {
                for (int i = 1; i < posts - 1; i++) {
                    yards[i] = toward(yards[i], MIDDLE_YARD, 1);
                }
            }
            days++;
            walked = false;
            return alone;
        }

        int takeWalk(Moor on, int w, int t, boolean foggy) {
            walked = true;
            return foggy ? 0 : bendBy(on, w, t);
        }

        /** By how many yards all posts are bent by a walk without fog. */
        int bendBy(Moor on, int w, int t) {
            if (isShut(t)) {
                return 0;
            }
            int kind = on.kinds[w];
            int reach = kind == BLINKERED ? 0 : on.reaches[w];
            int low = Math.max(1, on.thingPosts[t] - reach);
            int high = Math.min(posts - 2, on.thingPosts[t] + reach);
            int all = 0;
            // from low to high, as one who looks back sees the post before it where it has come to
            for (int i = low; i <= high; i++) {
                int to = bentYard(i, kind, on.thingYards[t]);
                all += Math.abs(to - yards[i]);
                yards[i] = to;
            }
            return all;
        }

        private int bentYard(int i, int kind, int aim) {
            int yard = yards[i];
            switch (kind) {
                case SHEEP: return i % 2 == 1 ? toward(yard, aim, 1) : awayFrom(yard, aim);
                case BLIND: return toward(yard, MIDDLE_YARD, 1);
                case LOOKING_BACK: return toward(yard, aim, Math.min(MOST_LOOKING_BACK, gapBefore(i)));
                default: return toward(yard, aim, 1);
            }
        }

        private static int toward(int yard, int aim, int by) {
            if (yard < aim) {
                return yard + by < aim ? yard + by : aim;
            }
            return yard - by > aim ? yard - by : aim;
        }

        private static int awayFrom(int yard, int aim) {
            if (yard < aim) {
                return yard > 0 ? yard - 1 : 0;
            }
            return yard < TOP_YARD ? yard + 1 : TOP_YARD;
        }

        private int gapBefore(int i) {
            int gap = yards[i] - yards[i - 1];
            return gap < 0 ? -gap : gap;
        }

        int reckonLong() {
            int so = 0;
            for (int i = 1; i < posts; i++) {
                so += POST_GAP + gapBefore(i);
            }
            return so;
        }

        int reckonCrooks() {
            int many = 0;
            for (int i = 1; i < posts - 1; i++) {
                int before = Integer.compare(yards[i], yards[i - 1]);
                int after = Integer.compare(yards[i], yards[i + 1]);
                if (before != 0 && before == after) {
                    many++;
                }
            }
            return many;
        }

        int reckonKnots() {
            int many = 0;
            for (int i = 1; i < posts; i++) {
                if (gapBefore(i) >= KNOT) {
                    many++;
                }
            }
            return many;
        }

        /** The last post that is no farther along than that. */
        int postAhead(int far) {
            int along = 0;
            int last = 0;
            for (int i = 1; i < posts; i++) {
                along += POST_GAP + gapBefore(i);
                if (along <= far) {
                    last = i;
                }
            }
            return along < far ? NONE : last;
        }
    }

    /** Roads laid by, the latest on top; they are made once and written over. */
    private static final class Shelf {
        private final Road[] roads;
        private int size;

        Shelf(int room) {
            roads = new Road[Math.max(1, room)];
            for (int k = 0; k < roads.length; k++) {
                roads[k] = new Road();
            }
        }

        void clear() {
            size = 0;
        }

        boolean put(Road road) {
            if (size >= roads.length) {
                return false;
            }
            roads[size].copyFrom(road);
            size++;
            return true;
        }

        void putOverOldest(Road road) {
            if (size >= roads.length) {
                Road oldest = roads[0];
                for (int k = 1; k < roads.length; k++) {
                    roads[k - 1] = roads[k];
                }
                roads[roads.length - 1] = oldest;
                size = roads.length - 1;
            }
            put(road);
        }

        boolean takeInto(Road road) {
            if (size < 1) {
                return false;
            }
            size--;
            road.copyFrom(roads[size]);
            return true;
        }
    }

    /** Where posts would be, and behind how many days or walks. */
    private static final class Clues {
        private final int[] cluePosts = new int[MOST_CLUES];
        private final int[] clueTimes = new int[MOST_CLUES];
        private final int[] clueYards = new int[MOST_CLUES];
        private int size;

        void clear() {
            size = 0;
        }

        boolean add(int i, int time, int yard) {
            if (size >= MOST_CLUES) {
                return false;
            }
            cluePosts[size] = i;
            clueTimes[size] = time;
            clueYards[size] = yard;
            size++;
            return true;
        }

        /** Whether all that is told of this time is so on that road. */
        boolean holdOn(Road road, int time) {
            for (int k = 0; k < size; k++) {
                if (clueTimes[k] == time && road.yards[cluePosts[k]] != clueYards[k]) {
                    return false;
                }
            }
            return true;
        }
    }

    /** The first of the shortest rows of walks behind which a goal is met. */
    private static final class Search {
        private static final int WHOLE_ROAD = -1;

        private final Road[] steps = new Road[MOST_WALKS + 1];
        private final int[] row = new int[MOST_WALKS];
        private int goalPost;
        private int goal;

        Search() {
            for (int k = 0; k < steps.length; k++) {
                steps[k] = new Road();
            }
        }

        /** The goal is a yard for a post, and for the whole road how long it is at least. */
        int fewestWalks(Moor on, Road from, int post, int wanted) {
            goalPost = post;
            goal = wanted;
            steps[0].copyFrom(from);
            for (int size = 0; size <= MOST_WALKS; size++) {
                if (isReached(this, on, 0, size)) {
                    return size;
                }
            }
            return NONE;
        }

        private static boolean isReached(Search s, Moor on, int level, int size) {
            if (level >= size || level >= MOST_WALKS) {
                return s.isMet(s.steps[level]);
            }
            if (s.isTooFar(s.steps[level], size - level)) {
                return false;
            }
            Road next = s.steps[level + 1];
            for (int w = 0; w < on.walkers; w++) {
                for (int t = 0; t < on.things; t++) {
                    next.copyFrom(s.steps[level]);
                    // a walk that bends nothing is in no shortest row
                    if (next.bendBy(on, w, t) > 0 && isReached(s, on, level + 1, size)) {
                        s.row[level] = 10 * w + t;
                        return true;
                    }
                }
            }
            return false;
        }

        private boolean isMet(Road road) {
            return goalPost == WHOLE_ROAD ? road.reckonLong() >= goal : road.yards[goalPost] == goal;
        }

        /** Spares rows that cannot come there: a walk bends a post by three yards at most. */
        private boolean isTooFar(Road road, int walksLeft) {
            int most = MOST_LOOKING_BACK * walksLeft;
            if (goalPost == WHOLE_ROAD) {
                return road.reckonLong() + 2 * most * (road.posts - 2) < goal;
            }
            return Math.abs(road.yards[goalPost] - goal) > most;
        }
    }
}
