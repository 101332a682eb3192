import java.util.Arrays;

/** Stilted geese of the border: what they leave behind, what guards are paid for it, and who it may have been. */
public final class GooseBorder {
    public static final int NONE = -1;

    private static final int NO_SUCH = -2;

    private static final int MOST_TAPE = 600;
    private static final int FED_BYTES = 20;
    private static final int MOST_PATHS = 5;
    private static final int MOST_GEESE = 8;
    private static final int MOST_DEEDS = 24;
    private static final int MOST_TERMS = 8;
    private static final int MOST_SEEN = 5;
    private static final int MOST_SHARING = 6;
    private static final int MOST_MARKS = 9999;
    private static final int MOST_DRAWN = 20;
    private static final int MOST_GAIN = 12;
    private static final int SETS = 1 << MOST_GEESE;
    private static final int IMAGES = 3;

    private static final int SORTS = 4;
    private static final int OF_EACH_SORT = 2;
    private static final int BORDERS = 0;
    private static final int NIGHTS = 1;
    private static final int LAWS = 2;
    private static final int DAWNS = 3;

    private static final int NO_WAY_ON = 1;
    private static final int BAD_NUMBER = 2;
    private static final int TOO_MANY = 3;
    private static final int SEEN_TWICE = 4;

    private static final int MARCH = 0;
    private static final int BACK = 1;
    private static final int HOMEWARD = 2;
    private static final int CARRY = 3;
    private static final int RECAST = 4;
    private static final int RAIN = 5;
    private static final int FROST = 6;
    private static final int THAW = 7;
    private static final int FOX = 8;

    private static final int EACH = 0;
    private static final int ABOVE = 1;
    private static final int BELOW = 2;
    private static final int ODD = 3;
    private static final int MOST = 4;

    private static final int HOME = 0;
    private static final int OVER = 1;
    private static final int EATEN = 2;

    /* Lines of texts, by numbers: all sorts behind one another, so that one table tells what each may hold. */
    private static final int PATH_LINE = 0;
    private static final int GOOSE_LINE = 1;
    private static final int CAP_LINE = 2;
    private static final int CARRY_LINE = 6;
    private static final int LINES = 18;
    private static final int MOST_NUMBERS = 5;
    private static final int[] FIRST_LINE = {0, 3, 12, 17, 18};
    private static final int[] NUMBERS = {3, 5, 1, 2, 2, 2, 3, 2, 1, 0, 0, 1, 1, 2, 2, 1, 1, 2};
    private static final int[] BOUNDS = {
        20, 9, 9, 0, 0,
        4, 4, 60, 1, 99,
        999, 0, 0, 0, 0,
        7, 4, 0, 0, 0,
        7, 4, 0, 0, 0,
        7, 4, 0, 0, 0,
        7, 7, 4, 0, 0,
        7, 60, 0, 0, 0,
        10, 0, 0, 0, 0,
        0, 0, 0, 0, 0,
        0, 0, 0, 0, 0,
        4, 0, 0, 0, 0,
        9, 0, 0, 0, 0,
        999, 99, 0, 0, 0,
        999, 99, 0, 0, 0,
        99, 0, 0, 0, 0,
        999, 0, 0, 0, 0,
        4, 999, 0, 0, 0
    };

    private final Told now = new Told();
    private final Told[] images = {new Told(), new Told(), new Told()};
    private final boolean[] kept = new boolean[IMAGES];
    private final Sheet[] drafts = {new Border(), new Night(), new Law(), new Dawn()};
    private final Night changed = new Night();
    private final Reader reader = new Reader();
    private final Play play = new Play();
    private final Sharing sharing = new Sharing();
    private final Flocks flocks = new Flocks();
    private int chance;

    public GooseBorder() {
    }

    // Texts: the tape, what it is taken as, and the fault.

    public int feed(int a, int b, int c, int d, int e) {
        if (now.length > MOST_TAPE - FED_BYTES) {
            return NONE;
        }
        now.addBytes(a);
        now.addBytes(b);
        now.addBytes(c);
        now.addBytes(d);
        now.addBytes(e);
        return now.length;
    }

    public int end(int n) {
        if (n < 0 || n > now.length) {
            return NONE;
        }
        now.length = n;
        return n;
    }

    public int text(int sort, int at) {
        // the tape is taken by every call, also by one that reads no text
        int length = now.length;
        now.length = 0;
        now.fault = 0;
        now.place = NONE;
        if (sort < 0 || sort >= SORTS) {
            return NO_SUCH;
        }
        int held = now.held[sort];
        boolean further = at == NONE;
        if (further ? held >= OF_EACH_SORT : at < 0 || at >= held) {
            return NO_SUCH;
        }
        Sheet draft = drafts[sort];
        reader.read(now.tape, length, sort, draft);
        now.fault = reader.fault;
        now.place = reader.place;
        if (now.fault != 0) {
            return NONE;
        }
        int number = further ? held : at;
        now.sheetOf(sort, number).copyFrom(draft);
        if (further) {
            now.held[sort] = held + 1;
        }
        return number;
    }

    public int fault(int what) {
        switch (what) {
            case 0:
                return now.fault;
            case 1:
                return now.place;
            default:
                return NONE;
        }
    }

    public int count(int sort) {
        return sort >= 0 && sort < SORTS ? now.held[sort] : NO_SUCH;
    }

    public boolean image(int k) {
        if (k < 0 || k >= IMAGES) {
            return false;
        }
        images[k].copyFrom(now);
        kept[k] = true;
        return true;
    }

    public boolean again(int k) {
        if (k < 0 || k >= IMAGES || !kept[k]) {
            return false;
        }
        now.copyFrom(images[k]);
        return true;
    }

    // What is told of borders, nights, laws and dawns.

    public int border(int border, int what) {
        Border b = borderAt(border);
        if (b == null) {
            return NO_SUCH;
        }
        switch (what) {
            case 0:
                return b.paths();
            case 1:
                return b.geese();
            case 2:
                return b.cap();
            default:
                return b.numberTold(what);
        }
    }

    public int marks(int border, int goose, int path, boolean frost) {
        Border b = borderAt(border);
        if (b == null || !b.hasGoose(goose) || !b.hasPath(path)) {
            return NONE;
        }
        return b.marksOver(goose, b.miles(path), b.boots(goose), frost);
    }

    public int deed(int night, int k, int what) {
        Night n = nightAt(night);
        return n == null ? NO_SUCH : lineOf(n, k, what);
    }

    public int term(int law, int k, int what) {
        Law l = lawAt(law);
        return l == null ? NO_SUCH : lineOf(l, k, what);
    }

    public int seen(int dawn, int k, int what) {
        Dawn d = dawnAt(dawn);
        if (d == null || what < 0 || what > 1) {
            return NO_SUCH;
        }
        // a dawn's lines are of one kind, which is not told: its numbers come first
        return lineOf(d, k, k == NONE ? what : what + 1);
    }

    public int pays(int law, int marks) {
        Law l = lawAt(law);
        if (l == null || marks < 0 || marks > MOST_MARKS) {
            return NONE;
        }
        return l.payFor(marks);
    }

    private static int lineOf(Lines lines, int k, int what) {
        if (k == NONE) {
            return what == 0 ? lines.size() : NO_SUCH;
        }
        if (k < 0 || k >= lines.size() || what < 0 || what > lines.numbers) {
            return NO_SUCH;
        }
        return lines.cell(k, what);
    }

    private Border borderAt(int number) {
        return number >= 0 && number < now.held[BORDERS] ? now.borders[number] : null;
    }

    private Night nightAt(int number) {
        return number >= 0 && number < now.held[NIGHTS] ? now.nights[number] : null;
    }

    private Law lawAt(int number) {
        return number >= 0 && number < now.held[LAWS] ? now.laws[number] : null;
    }

    private Dawn dawnAt(int number) {
        return number >= 0 && number < now.held[DAWNS] ? now.dawns[number] : null;
    }

    // Nights as they go.

    public int stop(int border, int night) {
        return playedOut(borderAt(border), nightAt(night)) ? play.done : NONE;
    }

    public int goose(int border, int night, int n, int goose, int what) {
        Border b = borderAt(border);
        if (b == null || !b.hasGoose(goose) || !playedTo(b, nightAt(night), n)) {
            return NO_SUCH;
        }
        switch (what) {
            case 0:
                return play.where[goose];
            case 1:
                return play.boots[goose];
            case 2:
                return play.trail[goose];
            case 3:
                return play.latest[goose];
            default:
                return NO_SUCH;
        }
    }

    public int path(int border, int night, int n, int path, int what) {
        Border b = borderAt(border);
        if (b == null || !b.hasPath(path) || !playedTo(b, nightAt(night), n)) {
            return NO_SUCH;
        }
        switch (what) {
            case 0:
                return play.marks[path];
            case 1:
                return play.exports[path];
            case 2:
                return play.tally(path);
            case 3:
                return b.padded(path, play.tally(path));
            case 4:
                return b.payOf(path, play.tally(path));
            case 5:
                return play.washed[path];
            default:
                return NO_SUCH;
        }
    }

    public int state(int border, int night, int n, int what) {
        Border b = borderAt(border);
        if (b == null || !playedTo(b, nightAt(night), n)) {
            return NO_SUCH;
        }
        switch (what) {
            case 0:
            case 1:
            case 2:
                return play.whoIs(what);
            case 3:
            case 4:
            case 5:
                return b.worthOf(play.whoIs(what - 3));
            case 6:
                return play.worn();
            case 7:
                return play.allPay();
            case 8:
                return play.frost ? 1 : 0;
            default:
                return NO_SUCH;
        }
    }

    private boolean playedOut(Border b, Night n) {
        if (b == null || n == null) {
            return false;
        }
        play.run(b, n, n.size(), NONE);
        return true;
    }

    private boolean playedTo(Border b, Night n, int deeds) {
        if (b == null || n == null || deeds < 0 || deeds > n.size()) {
            return false;
        }
        play.run(b, n, deeds, NONE);
        return play.done == deeds;
    }

    // Guards by a night's end.

    public int rest(int border, int night, int k) {
        Border b = borderAt(border);
        if (k < NONE || b == null || !playedOut(b, nightAt(night))) {
            return NO_SUCH;
        }
        int all = 1 << b.paths();
        int found = 0;
        for (int set = 0; set < all; set++) {
            if (play.isAtRest(set)) {
                if (found == k) {
                    return set;
                }
                found++;
            }
        }
        return k == NONE ? found : NO_SUCH;
    }

    public int take(int border, int night, int set, int path) {
        Border b = borderAt(border);
        if (b == null || !b.hasPath(path) || set < 0 || set >= 1 << b.paths()) {
            return NONE;
        }
        return playedOut(b, nightAt(night)) ? play.taken(set, path) : NONE;
    }

    public int honest(int border, int night, int path) {
        Border b = borderAt(border);
        if (b == null || !b.hasPath(path) || !playedOut(b, nightAt(night))) {
            return NONE;
        }
        int tally = play.tally(path);
        return b.payOf(path, tally) - b.rate(path) * tally;
    }

    public int lacks(int border, int night, int dawn) {
        Border b = borderAt(border);
        Dawn d = dawnAt(dawn);
        if (b == null || d == null || !playedOut(b, nightAt(night))) {
            return NONE;
        }
        int set = 0;
        for (int path = 0; path < b.paths(); path++) {
            if (d.leftOn(path) < play.tally(path)) {
                set |= 1 << path;
            }
        }
        return set;
    }

    public int who(int border, int night, int path, int marks) {
        Border b = borderAt(border);
        Night n = nightAt(night);
        if (b == null || n == null || !b.hasPath(path) || !playedOut(b, n)) {
            return NONE;
        }
        int stop = play.done;
        for (int k = 0; k < stop; k++) {
            if (n.kind(k) == MARCH && n.cell(k, 2) == path) {
                play.run(b, n, stop, k);
                if (play.tally(path) == marks) {
                    return k;
                }
            }
        }
        return NONE;
    }

    public int shift(int border, int night, boolean pay) {
        Border b = borderAt(border);
        Night n = nightAt(night);
        if (b == null || n == null || !playedOut(b, n)) {
            return NONE;
        }
        int stop = play.done;
        int most = play.allPay();
        int first = NONE;
        for (int k = 0; k + 1 < stop; k++) {
            changed.copyFrom(n);
            changed.changeWithNext(k);
            play.run(b, changed, changed.size(), NONE);
            if (play.done >= stop && play.allPay() > most) {
                most = play.allPay();
                first = k;
            }
        }
        return pay && first != NONE ? most : first;
    }

    // Marches of a border as told.

    public int even(int border, int what) {
        Border b = borderAt(border);
        if (b == null || !Sharing.canShare(b)) {
            return NONE;
        }
        if (what >= 20 && what < 20 + b.paths()) {
            sharing.solve(b, null, NONE);
            return sharing.bestPay[what - 20];
        }
        if (what != 0 && (what < 10 || what >= 10 + b.geese())) {
            return NONE;
        }
        sharing.solve(b, null, NONE);
        return what == 0 ? sharing.difference() : sharing.best[what - 10];
    }

    public int richest(int border, int law, int what) {
        Border b = borderAt(border);
        Law l = lawAt(law);
        if (b == null || l == null || !Sharing.canShare(b)) {
            return NONE;
        }
        if (what != 0 && (what < 10 || what >= 10 + b.geese())) {
            return NONE;
        }
        sharing.solve(b, l, NONE);
        return what == 0 ? sharing.bestValue : sharing.best[what - 10];
    }

    public int close(int border, boolean apart) {
        Border b = borderAt(border);
        if (b == null || !Sharing.canShare(b) || b.paths() < 2) {
            return NONE;
        }
        int least = 0;
        int closed = NONE;
        for (int path = 0; path < b.paths(); path++) {
            sharing.solve(b, null, path);
            if (closed == NONE || sharing.difference() < least) {
                least = sharing.difference();
                closed = path;
            }
        }
        return apart ? least : closed;
    }

    public int tar(int border, int path, int limit) {
        Border b = borderAt(border);
        if (b == null || !b.hasPath(path) || limit < 0 || limit > MOST_MARKS) {
            return NONE;
        }
        int over = b.barefoot(path) - limit;
        int booted = 0;
        // a mile of boots spares one goose the same in each mile, so those whom it spares most come first
        for (int gain = MOST_GAIN; gain > 0 && over > 0; gain--) {
            int miles = Math.min(b.milesThatSpare(path, gain), (over + gain - 1) / gain);
            over -= miles * gain;
            booted += miles;
        }
        return over > 0 ? NONE : booted;
    }

    public int lame(int border, int path, int goose) {
        Border b = borderAt(border);
        if (b == null) {
            return NONE;
        }
        if (goose >= 0 && goose < MOST_GEESE) {
            return b.hasGoose(goose) ? bestPath(b, goose) : NONE;
        }
        if (!b.hasPath(path)) {
            return NONE;
        }
        int limping = 0;
        int sound = 0;
        for (int g = 0; g < b.geese(); g++) {
            int marks = b.marksFirst(g, path);
            limping += marks;
            sound += b.limps(g) ? marks / 2 : marks;
        }
        return b.payOf(path, limping) - b.payOf(path, sound);
    }

    private static int bestPath(Border b, int goose) {
        int most = NONE;
        int best = NONE;
        for (int path = 0; path < b.paths(); path++) {
            int pay = b.payOf(path, b.marksFirst(goose, path));
            if (pay > most) {
                most = pay;
                best = path;
            }
        }
        return best;
    }

    public int two(int border, int goose, int other, int what) {
        Border from = borderAt(border);
        Border to = borderAt(other);
        if (from == null || to == null || !from.hasGoose(goose) || what < 0 || what > 2) {
            return NONE;
        }
        int most = NONE;
        int first = NONE;
        int second = NONE;
        for (int p = 0; p < from.paths(); p++) {
            int left = Math.max(0, from.boots(goose) - from.miles(p));
            int paid = from.payOf(p, from.marksFirst(goose, p));
            for (int q = 0; q < to.paths(); q++) {
                int pay = paid + to.payOf(q, from.marksOver(goose, to.miles(q), left, false));
                if (pay > most) {
                    most = pay;
                    first = p;
                    second = q;
                }
            }
        }
        return what == 0 ? first : what == 1 ? second : most;
    }

    public int alike(int border, int a, int b) {
        Border told = borderAt(border);
        if (told == null || a == b || !told.hasGoose(a) || !told.hasGoose(b)) {
            return NONE;
        }
        int set = 0;
        for (int path = 0; path < told.paths(); path++) {
            if (told.marksFirst(a, path) == told.marksFirst(b, path)) {
                set |= 1 << path;
            }
        }
        return set;
    }

    // Sets of geese, of a border as told.

    public int span(int border, int path, int n, boolean most) {
        Border b = borderAt(border);
        if (b == null || !b.hasPath(path) || n < 0 || n > b.geese()) {
            return NONE;
        }
        return flocks.marksOfAny(b, path, n, most);
    }

    public int split(int border, int a, int b, boolean apart) {
        Border told = borderAt(border);
        if (told == null || a == b || !told.hasPath(a) || !told.hasPath(b)) {
            return NONE;
        }
        int set = flocks.evenest(told, a, b);
        return apart ? flocks.apart : set;
    }

    public int backs(int border, int path, int limit, boolean many) {
        Border b = borderAt(border);
        if (b == null || !b.hasPath(path) || limit < 0 || limit > MOST_MARKS) {
            return NONE;
        }
        int set = flocks.fewestBackwards(b, path, limit);
        return many ? Integer.bitCount(set) : set;
    }

    public int near(int border, int dawn, int k) {
        Border b = borderAt(border);
        Dawn d = dawnAt(dawn);
        if (b == null || d == null || k < 0 || k >= d.size() || !b.hasPath(d.pathSeen(k))) {
            return NONE;
        }
        return flocks.nearest(b, d.pathSeen(k), d.marksSeen(k));
    }

    public int thrift(int border) {
        Border b = borderAt(border);
        return b == null ? NONE : flocks.thriftiest(b);
    }

    public long fits(int border, int dawn) {
        Border b = borderAt(border);
        Dawn d = dawnAt(dawn);
        if (b == null || d == null) {
            return NONE;
        }
        flocks.findWays(b, d, NONE, NONE);
        return flocks.allWays();
    }

    public int told(int border, int dawn, int what) {
        Border b = borderAt(border);
        Dawn d = dawnAt(dawn);
        if (b == null || d == null) {
            return NO_SUCH;
        }
        if (what == 3) {
            return toeOf(b, d);
        }
        boolean ofGoose = what >= 10 && b.hasGoose(what - 10);
        if (!ofGoose && (what < 0 || what > 2)) {
            return NO_SUCH;
        }
        flocks.findWays(b, d, NONE, NONE);
        if (flocks.allWays() == 0) {
            return NO_SUCH;
        }
        switch (what) {
            case 0:
                return flocks.fewestGone();
            case 1:
                return flocks.mostGone();
            case 2:
                return flocks.sureOnes();
            default:
                return flocks.pathsInAnyWay(b, d, what - 10);
        }
    }

    private static int toeOf(Border b, Dawn d) {
        for (int goose = 0; goose < b.geese(); goose++) {
            for (int k = 0; k < d.size(); k++) {
                int path = d.pathSeen(k);
                if (b.hasPath(path) && b.marksFirst(goose, path) == d.marksSeen(k)) {
                    return goose;
                }
            }
        }
        return NONE;
    }

    // Nights drawn by a seed.

    public int drawn(int border, int seed, int k, int what) {
        Border b = borderAt(border);
        if (b == null || b.paths() == 0 || k < 1 || k > MOST_DRAWN || !isDrawnOf(b, what)) {
            return NONE;
        }
        chance = seed;
        int sum = 0;
        for (int night = 0; night < k; night++) {
            sum += drawnNight(b, what);
        }
        return sum;
    }

    private static boolean isDrawnOf(Border b, int what) {
        return what >= 0 && what <= 2
            || what >= 10 && what < 20 && b.hasPath(what - 10)
            || what >= 20 && b.hasGoose(what - 20);
    }

    private int drawnNight(Border b, int what) {
        play.begin(b);
        for (int goose = 0; goose < b.geese(); goose++) {
            int path = numberBelow(b.paths());
            play.go(goose, path, 0, play.marks);
        }
        play.rainDown(numberBelow(11));
        int children = 0;
        for (int path = 0; path < b.paths(); path++) {
            if (numberBelow(10) < b.pad(path)) {
                children++;
            }
        }
        switch (what) {
            case 0:
                return play.allTallies();
            case 1:
                return play.allPay();
            case 2:
                return children;
            default:
                return what < 20 ? play.tally(what - 10) : play.trail[what - 20];
        }
    }

    private int numberBelow(int bound) {
        chance = chance * 1103515245 + 12345;
        return bound > 0 ? (chance >>> 16) % bound : 0;
    }

    /** What one text tells, in one row of numbers, so that drafts and images are copied alike. */
    private abstract static class Sheet {
        final int[] cells;

        Sheet(int size) {
            cells = new int[Math.max(1, size)];
        }

        final void copyFrom(Sheet other) {
            System.arraycopy(other.cells, 0, cells, 0, Math.min(cells.length, other.cells.length));
        }

        abstract void clear();

        abstract boolean hasRoomFor(int line);

        abstract void addLine(int line, int[] numbers);

        abstract boolean clashes();
    }

    /** A border: how many paths and geese, the cap, then rows of paths, then rows of geese. */
    private static final class Border extends Sheet {
        private static final int CAP = 2;
        private static final int PATHS_AT = 3;
        private static final int PATH_WIDTH = 3;
        private static final int GEESE_AT = PATHS_AT + MOST_PATHS * PATH_WIDTH;
        private static final int GOOSE_WIDTH = 5;

        Border() {
            super(GEESE_AT + MOST_GEESE * GOOSE_WIDTH);
            cells[CAP] = NONE;
        }

        void clear() {
            cells[0] = 0;
            cells[1] = 0;
            cells[CAP] = NONE;
        }

        boolean hasRoomFor(int line) {
            return line == CAP_LINE || (line == PATH_LINE ? paths() < MOST_PATHS : geese() < MOST_GEESE);
        }

        void addLine(int line, int[] numbers) {
            if (!hasRoomFor(line)) {
                return;
            }
            if (line == CAP_LINE) {
                cells[CAP] = numbers[0];
            } else if (line == PATH_LINE) {
                System.arraycopy(numbers, 0, cells, PATHS_AT + paths() * PATH_WIDTH, PATH_WIDTH);
                cells[0]++;
            } else if (line == GOOSE_LINE) {
                System.arraycopy(numbers, 0, cells, GEESE_AT + geese() * GOOSE_WIDTH, GOOSE_WIDTH);
                cells[1]++;
            }
        }

        boolean clashes() {
            return false;
        }

        int paths() {
            return cells[0];
        }

        int geese() {
            return cells[1];
        }

        int cap() {
            return cells[CAP];
        }

        boolean hasPath(int path) {
            return path >= 0 && path < paths();
        }

        boolean hasGoose(int goose) {
            return goose >= 0 && goose < geese();
        }

        /** Numbers of paths are told by tens 1 to 3, of geese by tens 4 to 8. */
        int numberTold(int what) {
            if (what < 10 || what > 89) {
                return NO_SUCH;
            }
            int tens = what / 10;
            int which = what % 10;
            if (tens <= PATH_WIDTH) {
                return hasPath(which) ? cells[PATHS_AT + which * PATH_WIDTH + tens - 1] : NO_SUCH;
            }
            int number = tens - 1 - PATH_WIDTH;
            return hasGoose(which) ? cells[GEESE_AT + which * GOOSE_WIDTH + number] : NO_SUCH;
        }

        int miles(int path) {
            return cells[PATHS_AT + path * PATH_WIDTH];
        }

        int rate(int path) {
            return cells[PATHS_AT + path * PATH_WIDTH + 1];
        }

        int pad(int path) {
            return cells[PATHS_AT + path * PATH_WIDTH + 2];
        }

        int toes(int goose) {
            int start = GEESE_AT + goose * GOOSE_WIDTH;
            return cells[start] + cells[start + 1];
        }

        int boots(int goose) {
            return cells[GEESE_AT + goose * GOOSE_WIDTH + 2];
        }

        boolean limps(int goose) {
            return cells[GEESE_AT + goose * GOOSE_WIDTH + 3] == 1;
        }

        int worth(int goose) {
            return cells[GEESE_AT + goose * GOOSE_WIDTH + 4];
        }

        int worthOf(int set) {
            int sum = 0;
            for (int goose = 0; goose < geese(); goose++) {
                if ((set >> goose & 1) == 1) {
                    sum += worth(goose);
                }
            }
            return sum;
        }

        int marksFirst(int goose, int path) {
            return marksOver(goose, miles(path), boots(goose), false);
        }

        int marksOver(int goose, int miles, int boots, boolean frost) {
            int booted = Math.min(miles, boots);
            int marks = (frost ? 0 : 2 * booted) + toes(goose) * (miles - booted);
            return limps(goose) ? 2 * marks : marks;
        }

        int padded(int path, int tally) {
            return tally + tally * pad(path) / 10;
        }

        int payOf(int path, int tally) {
            return rate(path) * padded(path, tally);
        }

        /** What all geese leave on a path without any boots. */
        int barefoot(int path) {
            int sum = 0;
            for (int goose = 0; goose < geese(); goose++) {
                sum += marksOver(goose, miles(path), 0, false);
            }
            return sum;
        }

        /** How many miles there are, of all geese, in which boots spare so many marks. */
        int milesThatSpare(int path, int gain) {
            int sum = 0;
            for (int goose = 0; goose < geese(); goose++) {
                int spared = (toes(goose) - 2) * (limps(goose) ? 2 : 1);
                if (spared == gain) {
                    sum += miles(path);
                }
            }
            return sum;
        }
    }

    /** Lines one behind the other: how many, then of each its kind and its numbers (NONE without). */
    private abstract static class Lines extends Sheet {
        final int most;
        final int numbers;
        final int firstLine;

        Lines(int most, int numbers, int firstLine) {
            super(1 + most * (numbers + 1));
            this.most = most;
            this.numbers = numbers;
            this.firstLine = firstLine;
        }

        final void clear() {
            cells[0] = 0;
        }

        final boolean hasRoomFor(int line) {
            return size() < most;
        }

        final void addLine(int line, int[] told) {
            if (!hasRoomFor(line) || line < 0 || line >= LINES) {
                return;
            }
            int start = 1 + size() * (numbers + 1);
            cells[start] = line - firstLine;
            for (int i = 0; i < numbers; i++) {
                cells[start + 1 + i] = i < NUMBERS[line] ? told[i] : NONE;
            }
            cells[0]++;
        }

        boolean clashes() {
            return false;
        }

        final int size() {
            return cells[0];
        }

        final int kind(int k) {
            return cell(k, 0);
        }

        final int cell(int k, int what) {
            return cells[1 + k * (numbers + 1) + what];
        }
    }

    private static final class Night extends Lines {
        Night() {
            super(MOST_DEEDS, 3, FIRST_LINE[NIGHTS]);
        }

        void changeWithNext(int k) {
            if (k < 0 || k + 1 >= size()) {
                return;
            }
            int width = numbers + 1;
            int start = 1 + k * width;
            for (int i = 0; i < width; i++) {
                int held = cells[start + i];
                cells[start + i] = cells[start + width + i];
                cells[start + width + i] = held;
            }
        }
    }

    private static final class Law extends Lines {
        Law() {
            super(MOST_TERMS, 2, FIRST_LINE[LAWS]);
        }

        int payFor(int marks) {
            int sum = 0;
            for (int k = 0; k < size(); k++) {
                int first = cell(k, 1);
                int second = cell(k, 2);
                switch (kind(k)) {
                    case EACH:
                        sum += first * marks;
                        break;
                    case ABOVE:
                        sum += marks > first ? second : 0;
                        break;
                    case BELOW:
                        sum += marks < first ? second : 0;
                        break;
                    case ODD:
                        sum += marks % 2 == 1 ? first : 0;
                        break;
                    case MOST:
                        sum = Math.min(sum, first);
                        break;
                    default:
                        break;
                }
            }
            return sum;
        }
    }

    private static final class Dawn extends Lines {
        Dawn() {
            super(MOST_SEEN, 2, FIRST_LINE[DAWNS]);
        }

        boolean clashes() {
            int paths = 0;
            for (int k = 0; k < size(); k++) {
                int bit = 1 << pathSeen(k);
                if ((paths & bit) != 0) {
                    return true;
                }
                paths |= bit;
            }
            return false;
        }

        int pathSeen(int k) {
            return cell(k, 1);
        }

        int marksSeen(int k) {
            return cell(k, 2);
        }

        /** By a path that is not seen nobody goes, so nothing is left there. */
        int leftOn(int path) {
            for (int k = 0; k < size(); k++) {
                if (pathSeen(k) == path) {
                    return marksSeen(k);
                }
            }
            return 0;
        }
    }

    /** All that is told: what an image keeps. */
    private static final class Told {
        final Border[] borders = {new Border(), new Border()};
        final Night[] nights = {new Night(), new Night()};
        final Law[] laws = {new Law(), new Law()};
        final Dawn[] dawns = {new Dawn(), new Dawn()};
        final int[] held = new int[SORTS];
        final byte[] tape = new byte[MOST_TAPE];
        int length;
        int fault;
        int place = NONE;

        void addBytes(int number) {
            if (length > MOST_TAPE - 4) {
                return;
            }
            for (int low = 24; low >= 0; low -= 8) {
                tape[length] = (byte) (number >> low);
                length++;
            }
        }

        Sheet sheetOf(int sort, int number) {
            switch (sort) {
                case BORDERS:
                    return borders[number];
                case NIGHTS:
                    return nights[number];
                case LAWS:
                    return laws[number];
                default:
                    return dawns[number];
            }
        }

        void copyFrom(Told other) {
            for (int sort = 0; sort < SORTS; sort++) {
                for (int number = 0; number < OF_EACH_SORT; number++) {
                    sheetOf(sort, number).copyFrom(other.sheetOf(sort, number));
                }
                held[sort] = other.held[sort];
            }
            System.arraycopy(other.tape, 0, tape, 0, MOST_TAPE);
            length = other.length;
            fault = other.fault;
            place = other.place;
        }
    }

    /** Reads a tape once; what it tells is good only if no fault is left at its end. */
    private static final class Reader {
        private final int[] numbers = new int[MOST_NUMBERS];
        private byte[] tape = new byte[0];
        private int length;
        private int at;
        int fault;
        int place;

        void read(byte[] bytes, int most, int sort, Sheet into) {
            tape = bytes;
            length = Math.min(most, bytes.length);
            at = 0;
            fault = 0;
            place = NONE;
            into.clear();
            skipBlanks();
            for (int lines = 0; lines < MOST_TAPE && at < length; lines++) {
                if (!readLine(sort, into)) {
                    fault = NO_WAY_ON;
                    place = at;
                    return;
                }
                skipBlanks();
            }
            if (fault == 0 && into.clashes()) {
                note(SEEN_TWICE, length);
            }
        }

        /** Whether a line stands here; if not, the reader stays at what it can't go on with. */
        private boolean readLine(int sort, Sheet into) {
            int first = at;
            int line = takeWord(sort);
            if (line == NONE) {
                return false;
            }
            if (!into.hasRoomFor(line)) {
                note(TOO_MANY, first);
            }
            for (int i = 0; i < NUMBERS[line]; i++) {
                skipBlanks();
                if (!takeNumber(line, i)) {
                    return false;
                }
            }
            skipBlanks();
            if (at >= length || tape[at] != ';') {
                return false;
            }
            at++;
            into.addLine(line, numbers);
            return true;
        }

        private int takeWord(int sort) {
            int end = at;
            while (end < length && tape[end] >= 'a' && tape[end] <= 'z') {
                end++;
            }
            for (int line = FIRST_LINE[sort]; line < FIRST_LINE[sort + 1]; line++) {
                if (isWord(wordOf(line), end)) {
                    at = end;
                    return line;
                }
            }
            return NONE;
        }

        private boolean isWord(String word, int end) {
            if (end - at != word.length()) {
                return false;
            }
            for (int i = 0; i < word.length(); i++) {
                if (tape[at + i] != word.charAt(i)) {
                    return false;
                }
            }
            return true;
        }

        private boolean takeNumber(int line, int i) {
            int end = at;
            int value = 0;
            while (end < length && tape[end] >= '0' && tape[end] <= '9') {
                // a row of more than three digits is refused below, however its value wraps
                value = value * 10 + (tape[end] - '0');
                end++;
            }
            if (end == at || end - at > 3) {
                return false;
            }
            numbers[i] = value;
            if (!canBe(line, i, value)) {
                note(BAD_NUMBER, at);
            }
            at = end;
            return true;
        }

        private boolean canBe(int line, int i, int value) {
            if (line == CARRY_LINE && i == 1 && value == numbers[0]) {
                return false;
            }
            int least = line == PATH_LINE && i == 0 ? 1 : 0;
            return value >= least && value <= BOUNDS[line * MOST_NUMBERS + i];
        }

        /** Places only grow while a tape is read, so the first one noted is the first by place. */
        private void note(int what, int where) {
            if (fault == 0) {
                fault = what;
                place = where;
            }
        }

        private void skipBlanks() {
            while (at < length && (tape[at] == 10 || tape[at] == 32)) {
                at++;
            }
        }

        private static String wordOf(int line) {
            switch (line) {
                case PATH_LINE:
                    return "path";
                case GOOSE_LINE:
                    return "goose";
                case CAP_LINE:
                    return "cap";
                case 3:
                    return "march";
                case 4:
                    return "back";
                case 5:
                    return "home";
                case CARRY_LINE:
                    return "carry";
                case 7:
                    return "recast";
                case 8:
                    return "rain";
                case 9:
                    return "frost";
                case 10:
                    return "thaw";
                case 11:
                    return "fox";
                case 12:
                    return "each";
                case 13:
                    return "above";
                case 14:
                    return "below";
                case 15:
                    return "odd";
                case 16:
                    return "most";
                default:
                    return "left";
            }
        }
    }

    /** A night as it goes, deed by deed, up to the first one that can't be. */
    private static final class Play {
        private Border border = new Border();
        final int[] where = new int[MOST_GEESE];
        final int[] boots = new int[MOST_GEESE];
        final int[] trail = new int[MOST_GEESE];
        final int[] latest = new int[MOST_GEESE];
        final int[] marks = new int[MOST_PATHS];
        final int[] exports = new int[MOST_PATHS];
        final int[] washed = new int[MOST_PATHS];
        /** Of each path and goose: by which deed it went there last, told from 1 on, 0 without. */
        private final int[] gone = new int[MOST_PATHS * MOST_GEESE];
        private int recast;
        boolean frost;
        int done;

        void begin(Border told) {
            border = told;
            for (int goose = 0; goose < MOST_GEESE; goose++) {
                where[goose] = HOME;
                boots[goose] = told.hasGoose(goose) ? told.boots(goose) : 0;
                trail[goose] = 0;
                latest[goose] = NONE;
            }
            Arrays.fill(marks, 0);
            Arrays.fill(exports, 0);
            Arrays.fill(washed, 0);
            Arrays.fill(gone, 0);
            recast = 0;
            frost = false;
            done = 0;
        }

        /** Of the first deeds as many as can be; the marks of the unmarked one (NONE: of none) are not laid. */
        void run(Border told, Night night, int most, int unmarked) {
            begin(told);
            int bound = Math.min(most, night.size());
            for (int k = 0; k < bound; k++) {
                if (!canBe(night, k)) {
                    return;
                }
                doDeed(night, k, k != unmarked);
                done = k + 1;
            }
        }

        private boolean canBe(Night night, int k) {
            int first = night.cell(k, 1);
            int second = night.cell(k, 2);
            switch (night.kind(k)) {
                case MARCH:
                case BACK:
                    return stands(first, HOME) && border.hasPath(second);
                case HOMEWARD:
                    return stands(first, OVER) && border.hasPath(second);
                case CARRY:
                    return stands(first, HOME) && stands(second, HOME) && border.hasPath(night.cell(k, 3));
                case RECAST:
                    return stands(first, HOME) || stands(first, OVER);
                case FOX:
                    return border.hasPath(first) && latestGoer(first) != NONE;
                default:
                    return true;
            }
        }

        private boolean stands(int goose, int place) {
            return border.hasGoose(goose) && where[goose] == place;
        }

        private void doDeed(Night night, int k, boolean marked) {
            int first = night.cell(k, 1);
            int second = night.cell(k, 2);
            switch (night.kind(k)) {
                case MARCH:
                    go(first, second, k, marked ? marks : null);
                    break;
                case BACK:
                case HOMEWARD:
                    go(first, second, k, exports);
                    break;
                case CARRY:
                    go(first, night.cell(k, 3), k, marks);
                    where[second] = OVER;
                    latest[second] = night.cell(k, 3);
                    break;
                case RECAST:
                    boots[first] = second;
                    recast |= 1 << first;
                    break;
                case RAIN:
                    rainDown(first);
                    break;
                case FROST:
                    frost = true;
                    break;
                case THAW:
                    frost = false;
                    break;
                case FOX:
                    eat(latestGoer(first));
                    break;
                default:
                    break;
            }
        }

        /** By deed k the goose goes to the other side; its marks come onto a row of paths (null: onto none). */
        void go(int goose, int path, int k, int[] onto) {
            int miles = border.miles(path);
            int left = border.marksOver(goose, miles, boots[goose], frost);
            if (onto != null) {
                onto[path] += left;
            }
            boots[goose] = Math.max(0, boots[goose] - miles);
            trail[goose] += left;
            where[goose] = where[goose] == HOME ? OVER : HOME;
            latest[goose] = path;
            gone[path * MOST_GEESE + goose] = k + 1;
        }

        void rainDown(int tenths) {
            for (int path = 0; path < border.paths(); path++) {
                int ofMarks = marks[path] * tenths / 10;
                int ofExports = exports[path] * tenths / 10;
                marks[path] -= ofMarks;
                exports[path] -= ofExports;
                washed[path] += ofMarks + ofExports;
            }
        }

        private void eat(int goose) {
            if (border.hasGoose(goose)) {
                where[goose] = EATEN;
            }
        }

        private int latestGoer(int path) {
            int latestDeed = 0;
            int goer = NONE;
            for (int goose = 0; goose < border.geese(); goose++) {
                int deed = gone[path * MOST_GEESE + goose];
                if (deed > latestDeed && where[goose] != EATEN) {
                    latestDeed = deed;
                    goer = goose;
                }
            }
            return goer;
        }

        int tally(int path) {
            return Math.max(0, marks[path] - exports[path]);
        }

        int allTallies() {
            int sum = 0;
            for (int path = 0; path < border.paths(); path++) {
                sum += tally(path);
            }
            return sum;
        }

        int allPay() {
            return payBy((1 << border.paths()) - 1);
        }

        int whoIs(int place) {
            int set = 0;
            for (int goose = 0; goose < border.geese(); goose++) {
                if (where[goose] == place) {
                    set |= 1 << goose;
                }
            }
            return set;
        }

        int worn() {
            int set = 0;
            for (int goose = 0; goose < border.geese(); goose++) {
                boolean hadSome = border.boots(goose) > 0 || (recast >> goose & 1) == 1;
                if (hadSome && boots[goose] == 0) {
                    set |= 1 << goose;
                }
            }
            return set;
        }

        private int payBy(int padding) {
            int sum = 0;
            for (int path = 0; path < border.paths(); path++) {
                sum += payTold(padding, path);
            }
            return sum;
        }

        private int payTold(int padding, int path) {
            boolean pads = (padding >> path & 1) == 1;
            return border.rate(path) * (pads ? border.padded(path, tally(path)) : tally(path));
        }

        int taken(int padding, int path) {
            boolean pads = (padding >> path & 1) == 1;
            boolean caught = pads && border.cap() != NONE && payBy(padding) > border.cap();
            return caught ? 0 : payTold(padding, path);
        }

        boolean isAtRest(int padding) {
            for (int path = 0; path < border.paths(); path++) {
                if (taken(padding ^ 1 << path, path) > taken(padding, path)) {
                    return false;
                }
            }
            return true;
        }
    }

    /** Each goose by one path: all rows of paths, one behind the other, and the best of them. */
    private static final class Sharing {
        private Border border = new Border();
        private Law law;
        private final int[] marks = new int[MOST_GEESE * MOST_PATHS];
        private final int[] open = new int[MOST_PATHS];
        private int opened;
        /** Of each goose: which of the open paths it goes by. */
        private final int[] row = new int[MOST_GEESE];
        private final int[] tallies = new int[MOST_PATHS];
        private final int[] pay = new int[MOST_PATHS];
        final int[] best = new int[MOST_GEESE];
        final int[] bestPay = new int[MOST_PATHS];
        int bestValue;

        static boolean canShare(Border b) {
            return b.paths() > 0 && b.geese() <= MOST_SHARING;
        }

        int difference() {
            return -bestValue;
        }

        /** Without a law: as even as may be; by a law: as much as may be. One path may be left out. */
        void solve(Border told, Law by, int without) {
            begin(told, by, without);
            bestValue = 0;
            int rows = 1;
            for (int goose = 0; goose < border.geese(); goose++) {
                rows *= opened;
            }
            for (int i = 0; i < rows; i++) {
                int value = law == null ? -spread() : together();
                if (i == 0 || value > bestValue) {
                    bestValue = value;
                    keepRow();
                }
                advance();
            }
        }

        private void begin(Border told, Law by, int without) {
            border = told;
            law = by;
            opened = 0;
            for (int path = 0; path < border.paths(); path++) {
                tallies[path] = 0;
                if (path != without) {
                    open[opened] = path;
                    opened++;
                }
            }
            for (int goose = 0; goose < border.geese(); goose++) {
                row[goose] = 0;
                for (int path = 0; path < border.paths(); path++) {
                    marks[goose * MOST_PATHS + path] = border.marksFirst(goose, path);
                }
                tallies[open[0]] += marks[goose * MOST_PATHS + open[0]];
            }
            for (int i = 0; i < opened; i++) {
                payAnew(open[i]);
            }
        }

        private void advance() {
            for (int goose = border.geese() - 1; goose >= 0; goose--) {
                int from = open[row[goose]];
                boolean last = row[goose] + 1 >= opened;
                row[goose] = last ? 0 : row[goose] + 1;
                int to = open[row[goose]];
                tallies[from] -= marks[goose * MOST_PATHS + from];
                tallies[to] += marks[goose * MOST_PATHS + to];
                payAnew(from);
                payAnew(to);
                if (!last) {
                    return;
                }
            }
        }

        private void payAnew(int path) {
            pay[path] = law == null
                ? border.payOf(path, tallies[path])
                : law.payFor(border.padded(path, tallies[path]));
        }

        private int spread() {
            int most = pay[open[0]];
            int least = most;
            for (int i = 1; i < opened; i++) {
                most = Math.max(most, pay[open[i]]);
                least = Math.min(least, pay[open[i]]);
            }
            return most - least;
        }

        private int together() {
            int sum = 0;
            for (int i = 0; i < opened; i++) {
                sum += pay[open[i]];
            }
            return sum;
        }

        private void keepRow() {
            for (int goose = 0; goose < border.geese(); goose++) {
                best[goose] = open[row[goose]];
            }
            System.arraycopy(pay, 0, bestPay, 0, MOST_PATHS);
        }
    }

    /** Sets of geese, as bits, and what they leave on one path together. */
    private static final class Flocks {
        private final int[] sums = new int[SETS];
        private final int[] others = new int[SETS];
        private long[] ways = new long[SETS];
        private long[] next = new long[SETS];
        private int sets;
        int apart;

        private void sumUp(Border b, int path, int[] into) {
            sets = 1 << b.geese();
            into[0] = 0;
            for (int goose = 0; goose < b.geese(); goose++) {
                int marks = b.marksFirst(goose, path);
                int bit = 1 << goose;
                for (int set = 0; set < bit; set++) {
                    into[bit + set] = into[set] + marks;
                }
            }
        }

        int marksOfAny(Border b, int path, int many, boolean most) {
            sumUp(b, path, sums);
            int found = NONE;
            for (int set = 0; set < sets; set++) {
                if (Integer.bitCount(set) == many) {
                    boolean better = most ? sums[set] > found : sums[set] < found;
                    found = found == NONE || better ? sums[set] : found;
                }
            }
            return found;
        }

        int evenest(Border b, int path, int other) {
            sumUp(b, path, sums);
            sumUp(b, other, others);
            apart = others[sets - 1];
            int found = 0;
            for (int set = 1; set < sets; set++) {
                int difference = Math.abs(sums[set] - others[sets - 1 - set]);
                if (difference < apart) {
                    apart = difference;
                    found = set;
                }
            }
            return found;
        }

        /** All of them backwards leave no tally at all, so there is one for every limit. */
        int fewestBackwards(Border b, int path, int limit) {
            sumUp(b, path, sums);
            int found = sets - 1;
            for (int set = 0; set < sets; set++) {
                boolean enough = sums[sets - 1] - 2 * sums[set] <= limit;
                if (enough && Integer.bitCount(set) < Integer.bitCount(found)) {
                    found = set;
                }
            }
            return found;
        }

        int nearest(Border b, int path, int seen) {
            sumUp(b, path, sums);
            int found = 0;
            for (int set = 1; set < sets; set++) {
                if (Math.abs(sums[set] - seen) < Math.abs(sums[found] - seen)) {
                    found = set;
                }
            }
            return found;
        }

        /** One goose a path is enough and needed, so sets of as many geese as paths are all that count. */
        int thriftiest(Border b) {
            sets = 1 << b.geese();
            ways[0] = 1;
            if (b.paths() == 0) {
                return 0;
            }
            for (int set = 1; set < sets; set++) {
                int path = Integer.bitCount(set) - 1;
                ways[set] = path < b.paths() && paysAll(b, set, path) ? 1 : 0;
                if (ways[set] == 1 && path == b.paths() - 1) {
                    return set;
                }
            }
            return NONE;
        }

        /** Whether one of the set pays this path, the others the paths ahead of it. */
        private boolean paysAll(Border b, int set, int path) {
            for (int goose = 0; goose < b.geese(); goose++) {
                int without = set & ~(1 << goose);
                if (without != set && ways[without] == 1 && b.payOf(path, b.marksFirst(goose, path)) > 0) {
                    return true;
                }
            }
            return false;
        }

        /** By sets who went at all: in how many ways; goose (if not NONE) goes by the k-th path seen. */
        void findWays(Border b, Dawn dawn, int goose, int k) {
            sets = 1 << b.geese();
            Arrays.fill(ways, 0L);
            ways[0] = 1;
            for (int i = 0; i < dawn.size(); i++) {
                int path = dawn.pathSeen(i);
                if (b.hasPath(path)) {
                    sumUp(b, path, sums);
                    goBy(dawn.marksSeen(i), goose != NONE && i == k ? 1 << goose : 0);
                } else if (dawn.marksSeen(i) != 0 || i == k) {
                    // nobody can go by a path that is not there
                    Arrays.fill(ways, 0L);
                }
            }
        }

        private void goBy(int seen, int among) {
            Arrays.fill(next, 0L);
            for (int going = 0; going < sets; going++) {
                if (sums[going] == seen && (going & among) == among) {
                    addGoing(going);
                }
            }
            long[] held = ways;
            ways = next;
            next = held;
        }

        private void addGoing(int going) {
            int stayed = sets - 1 & ~going;
            for (int set = stayed; set > 0; set = set - 1 & stayed) {
                next[set | going] += ways[set];
            }
            next[going] += ways[0];
        }

        long allWays() {
            long sum = 0;
            for (int set = 0; set < sets; set++) {
                sum += ways[set];
            }
            return sum;
        }

        int fewestGone() {
            int fewest = MOST_GEESE;
            for (int set = 0; set < sets; set++) {
                if (ways[set] > 0) {
                    fewest = Math.min(fewest, Integer.bitCount(set));
                }
            }
            return fewest;
        }

        int mostGone() {
            int most = 0;
            for (int set = 0; set < sets; set++) {
                if (ways[set] > 0) {
                    most = Math.max(most, Integer.bitCount(set));
                }
            }
            return most;
        }

        int sureOnes() {
            int sure = sets - 1;
            for (int set = 0; set < sets; set++) {
                if (ways[set] > 0) {
                    sure &= set;
                }
            }
            return sure;
        }

        int pathsInAnyWay(Border b, Dawn dawn, int goose) {
            int paths = 0;
            for (int k = 0; k < dawn.size(); k++) {
                findWays(b, dawn, goose, k);
                if (allWays() > 0) {
                    paths |= 1 << dawn.pathSeen(k);
                }
            }
            return paths;
        }
    }
}
