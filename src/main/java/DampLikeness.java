/**
 * A wall on which damp is doing somebody.
 *
 * All rows are made once, with the object: no call makes a new one, so that a long run stays small.
 */
public final class DampLikeness {
    public static final int NONE = -1, UNKNOWN = -1000000001, OUTSIDE = -1000000002, NOT = -1000000003, FULL = -1000000004;

    private static final int MOST_LETTERS = 240, MOST_SIDE = 5, MOST_CELLS = 25;
    private static final int MOST_LEAKS = 4, MOST_CRACKS = 6, MOST_FACES = 5;
    private static final int MOST_WET = 9, MARK = 3, MOST_RAIN = 9, MOST_WIND = 2;
    private static final int MOST_DAYS = 60, MOST_LEAD_DAYS = 20, MOST_OFTEN_DAYS = 8, FULL_DAYS = 9000;
    private static final int MOST_ENTRIES = 15, MOST_UNDONE = 16, IMAGES = 2, SIDES = 4;
    private static final int BILLION = 1000000000;

    private final Reader reader = new Reader();
    private final Damp now = new Damp();
    private final Flow flow = new Flow();
    private final Trial trial = new Trial();
    private final Past past = new Past();
    private final Book book = new Book();
    private final Draws draws = new Draws();
    private final Image[] images = new Image[IMAGES];
    private Plan plan = new Plan();
    private Plan spare = new Plan();

    public DampLikeness() {
        for (int i = 0; i < images.length; i++) {
            images[i] = new Image();
        }
    }

    // ---- the wall

    public int feed(int letter) {
        return outside(letter, 0, 255) ? OUTSIDE : reader.add(letter);
    }

    public int wall() {
        if (!reader.read(spare)) {
            return -10 - reader.faultKind;
        }
        Plan old = plan;
        plan = spare;
        spare = old;
        now.begin(plan);
        book.clear();
        past.clear();
        for (int i = 0; i < images.length; i++) {
            images[i].kept = false;
        }
        return plan.cells();
    }

    public int fault() {
        return reader.faultAt;
    }

    public int told(int what) {
        switch (what) {
            case 0: return plan.rows;
            case 1: return plan.columns;
            case 2: return plan.leakCount;
            case 3: return plan.crackCount;
            case 4: return plan.faceCount;
            case 5: return reader.count;
            case 6: return now.days;
            case 7: return now.wind;
            case 8: return now.marks();
            case 9: return now.filled;
            case 10: return now.looks;
            case 11: return now.brushes;
            case 12: return now.allWet();
            case 13: return Marks.whom(plan, now.marks());
            case 14: return Marks.mayBe(plan, now.marks());
            case 15: return Marks.groups(plan, now.marks());
            case 16: return Marks.greatestGroup(plan, now.marks());
            case 17: return Marks.border(plan, now.marks());
            case 18: return Marks.fullest(plan, now.marks());
            case 19: return book.count;
            case 20: return past.count;
            default: return OUTSIDE;
        }
    }

    public int cell(int x) {
        return plan.hasCell(x) ? pick(now.wet, x) : UNKNOWN;
    }

    public int leak(int l) {
        return plan.hasLeak(l) ? pick(now.leakAt, l) : UNKNOWN;
    }

    public int crack(int c, int what) {
        if (!plan.hasCrack(c)) {
            return UNKNOWN;
        }
        switch (what) {
            case 0: return pick(plan.crackA, c);
            case 1: return pick(plan.crackB, c);
            case 2: return now.isFilled(c) ? 1 : 0;
            default: return OUTSIDE;
        }
    }

    public int likeness(int f, int what) {
        if (!plan.hasFace(f)) {
            return UNKNOWN;
        }
        int face = pick(plan.faces, f);
        switch (what) {
            case 0: return face;
            case 1: return Marks.like(plan, now.marks(), face);
            case 2: return Integer.bitCount(now.marks() & ~face);
            default: return OUTSIDE;
        }
    }

    // ---- what is done

    public int day(int n, int r) {
        if (outside(n, 1, MOST_DAYS) || outside(r, 0, MOST_RAIN)) {
            return OUTSIDE;
        }
        if (noWall()) {
            return NOT;
        }
        if (now.days > FULL_DAYS) {
            return FULL;
        }
        past.push(now);
        flow.rainDays(plan, now, n, r);
        return now.markCount();
    }

    public int look() {
        if (noWall()) {
            return NOT;
        }
        past.push(now);
        now.shrink(plan);
        return now.markCount();
    }

    public int brush(int x) {
        if (!plan.hasCell(x)) {
            return UNKNOWN;
        }
        past.push(now);
        int was = pick(now.wet, x);
        put(now.wet, x, 0);
        now.brushes++;
        return was;
    }

    public int lead(int l, int x) {
        if (!plan.hasLeak(l) || !plan.hasCell(x)) {
            return UNKNOWN;
        }
        past.push(now);
        int was = pick(now.leakAt, l);
        put(now.leakAt, l, x);
        return was;
    }

    public int wind(int n) {
        if (outside(n, 0, MOST_WIND)) {
            return OUTSIDE;
        }
        if (noWall()) {
            return NOT;
        }
        past.push(now);
        int was = now.wind;
        now.wind = n;
        return was;
    }

    public int fill(int c, boolean is) {
        if (!plan.hasCrack(c)) {
            return UNKNOWN;
        }
        past.push(now);
        int was = now.isFilled(c) ? 1 : 0;
        now.filled = is ? now.filled | (1 << c) : now.filled & ~(1 << c);
        return was;
    }

    public int drift(int n) {
        if (outside(n, 1, MOST_DAYS)) {
            return OUTSIDE;
        }
        if (noWall()) {
            return NOT;
        }
        if (now.days > FULL_DAYS) {
            return FULL;
        }
        past.push(now);
        for (int k = 0; k < n; k++) {
            driftOneDay();
        }
        return now.markCount();
    }

    public int undo() {
        return past.pop(now) ? past.count : NOT;
    }

    // ---- tried

    public int shown(int n, int r) {
        if (outside(n, 0, MOST_DAYS) || outside(r, 0, MOST_RAIN)) {
            return OUTSIDE;
        }
        return noWall() ? NOT : trial.marksBehind(plan, now, n, r);
    }

    public int first(int m, int r) {
        if (outside(m, 0, MOST_CELLS) || outside(r, 0, MOST_RAIN)) {
            return OUTSIDE;
        }
        return noWall() ? NOT : trial.daysTillMarks(plan, now, m, r);
    }

    public int leadTo(int l, int f, int n, int r, int what) {
        if (!plan.hasLeak(l) || !plan.hasFace(f)) {
            return UNKNOWN;
        }
        if (outside(n, 1, MOST_LEAD_DAYS) || outside(r, 0, MOST_RAIN) || outside(what, 0, 1)) {
            return OUTSIDE;
        }
        trial.leadBest(plan, now, l, pick(plan.faces, f), n, r);
        return what == 0 ? trial.best : trial.bestCount;
    }

    public int often(int n, int r, int m, int what) {
        if (outside(n, 1, MOST_OFTEN_DAYS) || outside(r, 0, MOST_RAIN)
                || outside(m, 0, MOST_CELLS) || outside(what, 0, 1)) {
            return OUTSIDE;
        }
        if (noWall()) {
            return NOT;
        }
        trial.lookMost(plan, now, n, r, m);
        return what == 0 ? trial.bestCount : trial.best;
    }

    public int wasRain(int set) {
        if ((set & ~plan.allCells) != 0) {
            return UNKNOWN;
        }
        return noWall() ? NOT : trial.rainsThatShow(plan, now, set);
    }

    public int rainToTell(int what) {
        if (outside(what, 0, 1)) {
            return OUTSIDE;
        }
        if (noWall()) {
            return NOT;
        }
        trial.rainThatLeavesFewest(plan, now);
        return what == 0 ? trial.best : trial.bestCount;
    }

    public int dryIn() {
        return noWall() ? NOT : trial.daysTillDry(plan, now);
    }

    public int either(int f, int g, int what) {
        if (!plan.hasFace(f) || !plan.hasFace(g)) {
            return UNKNOWN;
        }
        int face = pick(plan.faces, f);
        int unlike = face ^ pick(plan.faces, g);
        switch (what) {
            case 0: return unlike;
            case 1: return Integer.bitCount(unlike & ~(now.marks() ^ face));
            default: return OUTSIDE;
        }
    }

    public int rainy(int n, int q) {
        if (outside(n, 0, MOST_DAYS) || outside(q, 0, 100)) {
            return OUTSIDE;
        }
        long odds = BILLION;
        for (int k = 0; k < n; k++) {
            odds = odds * q / 100;
        }
        return (int) odds;
    }

    // ---- the book

    public int write(int x, int wet) {
        if (!plan.hasCell(x)) {
            return UNKNOWN;
        }
        return outside(wet, 0, MOST_WET) ? OUTSIDE : book.add(x, wet);
    }

    public int tear() {
        int had = book.count;
        book.clear();
        return had;
    }

    public int judge() {
        return book.firstWrong(now);
    }

    // ---- draws, images

    public int seed(int v) {
        if (v < 0) {
            return OUTSIDE;
        }
        int was = draws.state;
        draws.state = v;
        return was;
    }

    public int keep(int i) {
        if (outside(i, 0, images.length - 1)) {
            return UNKNOWN;
        }
        Image image = images[i];
        image.damp.copyFrom(now);
        image.drawState = draws.state;
        image.kept = true;
        past.clear();
        return 1;
    }

    public int goBack(int i) {
        if (outside(i, 0, images.length - 1)) {
            return UNKNOWN;
        }
        Image image = images[i];
        if (!image.kept) {
            return NOT;
        }
        now.copyFrom(image.damp);
        draws.state = image.drawState;
        past.clear();
        return 1;
    }

    private boolean noWall() {
        return plan.cells() == 0;
    }

    private void driftOneDay() {
        flow.rainDay(plan, now, draws.draw(MOST_RAIN + 1));
        int turn = draws.draw(6);
        if (turn == 0) {
            now.shrink(plan);
        } else if (turn == 1) {
            now.wind = draws.draw(MOST_WIND + 1);
        } else if (turn == 2 && plan.leakCount > 0) {
            int l = draws.draw(plan.leakCount);
            put(now.leakAt, l, draws.draw(plan.cells()));
        }
    }

    private static boolean outside(int value, int least, int most) {
        return value < least || value > most;
    }

    private static int pick(int[] row, int i) {
        return i >= 0 && i < row.length ? row[i] : 0;
    }

    private static void put(int[] row, int i, int value) {
        if (i >= 0 && i < row.length) {
            row[i] = value;
        }
    }

    /** What the text told; it changes only when another text becomes the wall. */
    private static final class Plan {
        final int[] leakAt = new int[MOST_LEAKS];
        final int[] crackA = new int[MOST_CRACKS];
        final int[] crackB = new int[MOST_CRACKS];
        final int[] faces = new int[MOST_FACES];
        int rows, columns, allCells, firstColumn, wind;
        int leakCount, crackCount, faceCount;

        void clear() {
            resize(0, 0);
            wind = 0;
            leakCount = 0;
            crackCount = 0;
            faceCount = 0;
        }

        int cells() {
            return rows * columns;
        }

        void resize(int h, int w) {
            rows = h;
            columns = w;
            allCells = (1 << (h * w)) - 1;
            firstColumn = 0;
            for (int row = 0; row < h; row++) {
                firstColumn |= 1 << (row * w);
            }
        }

        int columnOf(int x) {
            return columns > 0 ? x % columns : 0;
        }

        boolean hasCell(int x) {
            return x >= 0 && x < cells();
        }

        boolean hasLeak(int l) {
            return l >= 0 && l < leakCount;
        }

        boolean hasCrack(int c) {
            return c >= 0 && c < crackCount;
        }

        boolean hasFace(int f) {
            return f >= 0 && f < faceCount;
        }

        void addLeak(int x) {
            put(leakAt, leakCount, x);
            leakCount++;
        }

        void addCrack(int a, int b) {
            put(crackA, crackCount, a);
            put(crackB, crackCount, b);
            crackCount++;
        }

        void addFace(int set) {
            put(faces, faceCount, set);
            faceCount++;
        }

        boolean touch(int a, int b) {
            int low = Math.min(a, b);
            int apart = Math.max(a, b) - low;
            return apart == columns || (apart == 1 && columnOf(low) + 1 < columns);
        }

        boolean isCracked(int a, int b) {
            for (int c = 0; c < crackCount && c < crackA.length && c < crackB.length; c++) {
                if ((crackA[c] == a && crackB[c] == b) || (crackA[c] == b && crackB[c] == a)) {
                    return true;
                }
            }
            return false;
        }

        int below(int x) {
            return x + columns < cells() ? x + columns : NONE;
        }

        int beside(int x, int wind) {
            if (wind == 1) {
                return columnOf(x) > 0 ? x - 1 : NONE;
            }
            return wind == 2 && columnOf(x) + 1 < columns ? x + 1 : NONE;
        }
    }

    /** The text as it is fed, and its first fault. */
    private static final class Reader {
        private static final int END = -1;
        private static final int CANNOT_STAND = 1, NO_SUCH_NUMBER = 2, ONE_TOO_MANY = 3, NO_SUCH_CRACK = 4;

        final int[] letters = new int[MOST_LETTERS];
        int count, faultKind;
        int faultAt = NONE;
        private int at, numberAt;
        private boolean windTold;

        int add(int letter) {
            if (count >= letters.length) {
                return FULL;
            }
            put(letters, count, letter);
            count++;
            return count;
        }

        /** Empties the text in any case; what is put into the plan counts only without a fault. */
        boolean read(Plan into) {
            at = 0;
            faultKind = 0;
            faultAt = NONE;
            windTold = false;
            into.clear();
            for (int k = 0; k < MOST_LETTERS && faultKind == 0 && peek() != END; k++) {
                readClause(into);
            }
            count = 0;
            return faultKind == 0;
        }

        private void readClause(Plan into) {
            int word = peek();
            if (into.rows == 0 && word != 'w') {
                fail(CANNOT_STAND, at);
                return;
            }
            switch (word) {
                case 'w': readSize(into); break;
                case 'l': readLeak(into); break;
                case 'c': readCrack(into); break;
                case 'f': readFace(into); break;
                case 'n': readWind(into); break;
                default: fail(CANNOT_STAND, at);
            }
        }

        private void readSize(Plan into) {
            takeWord(into.rows > 0);
            int rows = takeNumber(2, MOST_SIDE);
            int columns = takeNumber(2, MOST_SIDE);
            if (takeSign(';')) {
                into.resize(rows, columns);
            }
        }

        private void readLeak(Plan into) {
            takeWord(into.leakCount >= MOST_LEAKS);
            int x = takeNumber(0, into.cells() - 1);
            if (takeSign(';')) {
                into.addLeak(x);
            }
        }

        private void readCrack(Plan into) {
            takeWord(into.crackCount >= MOST_CRACKS);
            int a = takeNumber(0, into.cells() - 1);
            int b = takeNumber(0, into.cells() - 1);
            if (!into.touch(a, b) || into.isCracked(a, b)) {
                fail(NO_SUCH_CRACK, numberAt);
            }
            if (takeSign(';')) {
                into.addCrack(a, b);
            }
        }

        private void readFace(Plan into) {
            takeWord(into.faceCount >= MOST_FACES);
            int set = 0;
            for (int row = 0; row < into.rows; row++) {
                if (row > 0) {
                    takeSign(',');
                }
                set |= takeNumber(0, (1 << into.columns) - 1) << (row * into.columns);
            }
            if (takeSign(';')) {
                into.addFace(set);
            }
        }

        private void readWind(Plan into) {
            takeWord(windTold);
            int wind = takeNumber(0, MOST_WIND);
            if (takeSign(';')) {
                into.wind = wind;
                windTold = true;
            }
        }

        /** Behind a fault nothing more is taken, so that the first one stays. */
        private void fail(int kind, int where) {
            if (faultKind == 0) {
                faultKind = kind;
                faultAt = where;
            }
        }

        private int peek() {
            while (at < count && pick(letters, at) == ' ') {
                at++;
            }
            return at < count ? pick(letters, at) : END;
        }

        private void takeWord(boolean tooMany) {
            if (tooMany) {
                fail(ONE_TOO_MANY, at);
            }
            at++;
        }

        private boolean takeSign(int sign) {
            if (faultKind == 0 && peek() != sign) {
                fail(CANNOT_STAND, at);
            }
            if (faultKind != 0) {
                return false;
            }
            at++;
            return true;
        }

        private int takeNumber(int least, int most) {
            if (faultKind == 0 && !isFigure(peek())) {
                fail(CANNOT_STAND, at);
            }
            if (faultKind != 0) {
                return 0;
            }
            numberAt = at;
            int value = 0;
            while (at < count && isFigure(pick(letters, at))) {
                // a longer number is a fault whatever its value: its later figures must not wrap it around
                if (at - numberAt < 3) {
                    value = value * 10 + pick(letters, at) - '0';
                }
                at++;
            }
            if (at - numberAt > 3 || outside(value, least, most)) {
                fail(NO_SUCH_NUMBER, numberAt);
            }
            return value;
        }

        private static boolean isFigure(int letter) {
            return letter >= '0' && letter <= '9';
        }
    }

    /** How the wall is now: all that can be undone or kept as an image. */
    private static final class Damp {
        final int[] wet = new int[MOST_CELLS];
        final int[] leakAt = new int[MOST_LEAKS];
        int wind, filled, days, looks, brushes;

        void begin(Plan plan) {
            for (int x = 0; x < wet.length; x++) {
                wet[x] = 0;
            }
            for (int l = 0; l < leakAt.length; l++) {
                leakAt[l] = pick(plan.leakAt, l);
            }
            wind = plan.wind;
            filled = 0;
            days = 0;
            looks = 0;
            brushes = 0;
        }

        void copyFrom(Damp other) {
            System.arraycopy(other.wet, 0, wet, 0, MOST_CELLS);
            System.arraycopy(other.leakAt, 0, leakAt, 0, MOST_LEAKS);
            wind = other.wind;
            filled = other.filled;
            days = other.days;
            looks = other.looks;
            brushes = other.brushes;
        }

        boolean isFilled(int c) {
            return ((filled >> c) & 1) != 0;
        }

        int marks() {
            int set = 0;
            for (int x = 0; x < wet.length; x++) {
                if (wet[x] >= MARK) {
                    set |= 1 << x;
                }
            }
            return set;
        }

        int markCount() {
            return Integer.bitCount(marks());
        }

        int allWet() {
            int sum = 0;
            for (int x = 0; x < wet.length; x++) {
                sum += wet[x];
            }
            return sum;
        }

        /** It is shy: this is what a look does. */
        void shrink(Plan plan) {
            int lonely = Marks.lonely(plan, marks());
            for (int x = 0; x < wet.length; x++) {
                if (((lonely >> x) & 1) != 0) {
                    wet[x] -= 2;
                }
            }
            looks++;
        }
    }

    /** One day after the other; its rows are needed only within a day. */
    private static final class Flow {
        private final int[] ahead = new int[MOST_CELLS];
        private final int[] come = new int[MOST_CELLS];

        void rainDays(Plan plan, Damp damp, int n, int rain) {
            for (int k = 0; k < n; k++) {
                rainDay(plan, damp, rain);
            }
        }

        void rainDay(Plan plan, Damp damp, int rain) {
            for (int l = 0; l < plan.leakCount; l++) {
                int x = pick(damp.leakAt, l);
                put(damp.wet, x, Math.min(MOST_WET, pick(damp.wet, x) + rain));
            }
            System.arraycopy(damp.wet, 0, ahead, 0, MOST_CELLS);
            runDownAndByWind(plan, damp);
            runByCracks(plan, damp);
            settle(damp, rain == 0 ? 1 : 0);
            damp.days++;
        }

        private void runDownAndByWind(Plan plan, Damp damp) {
            for (int x = 0; x < ahead.length; x++) {
                if (ahead[x] >= 2) {
                    give(damp, x, plan.below(x));
                }
                if (ahead[x] >= 4) {
                    give(damp, x, plan.beside(x, damp.wind));
                }
            }
        }

        /** Crack by crack instead of cell by cell: each cell still gives in the order of its cracks. */
        private void runByCracks(Plan plan, Damp damp) {
            for (int c = 0; c < plan.crackCount; c++) {
                if (damp.isFilled(c)) {
                    continue;
                }
                int a = pick(plan.crackA, c);
                int b = pick(plan.crackB, c);
                int more = pick(ahead, a) - pick(ahead, b);
                if (more >= 2) {
                    give(damp, a, b);
                } else if (more <= -2) {
                    give(damp, b, a);
                }
            }
        }

        /** What comes waits in its own row: a cell must not pass on today what came today. */
        private void give(Damp damp, int from, int to) {
            if (to != NONE && pick(damp.wet, from) > 0) {
                put(damp.wet, from, pick(damp.wet, from) - 1);
                put(come, to, pick(come, to) + 1);
            }
        }

        private void settle(Damp damp, int dried) {
            for (int x = 0; x < come.length; x++) {
                int wet = Math.min(MOST_WET, pick(damp.wet, x) + come[x]);
                put(damp.wet, x, Math.max(0, wet - dried));
                come[x] = 0;
            }
        }
    }

    /** What can be said of a set of marks on a wall. */
    private static final class Marks {
        /** The cells whose neighbour on a side is in the set. */
        private static int besideSet(Plan plan, int set, int side) {
            switch (side) {
                case 0: return (set << plan.columns) & plan.allCells;
                case 1: return set >> plan.columns;
                case 2: return (set << 1) & plan.allCells & ~plan.firstColumn;
                default: return (set & ~plan.firstColumn) >> 1;
            }
        }

        static int lonely(Plan plan, int marks) {
            int one = 0;
            int two = 0;
            for (int side = 0; side < SIDES; side++) {
                int beside = besideSet(plan, marks, side);
                two |= one & beside;
                one |= beside;
            }
            return marks & ~two;
        }

        static int border(Plan plan, int marks) {
            int sum = 0;
            for (int side = 0; side < SIDES; side++) {
                sum += Integer.bitCount(marks & ~besideSet(plan, marks, side));
            }
            return sum;
        }

        private static int groupOf(Plan plan, int marks, int x) {
            int group = 1 << x;
            for (int k = 0; k < MOST_CELLS; k++) {
                int grown = group;
                for (int side = 0; side < SIDES; side++) {
                    grown |= besideSet(plan, group, side) & marks;
                }
                if (grown == group) {
                    break;
                }
                group = grown;
            }
            return group;
        }

        static int groups(Plan plan, int marks) {
            int left = marks;
            int count = 0;
            for (int x = 0; x < plan.cells(); x++) {
                if (((left >> x) & 1) != 0) {
                    left &= ~groupOf(plan, marks, x);
                    count++;
                }
            }
            return count;
        }

        static int greatestGroup(Plan plan, int marks) {
            int left = marks;
            int greatest = 0;
            for (int x = 0; x < plan.cells(); x++) {
                if (((left >> x) & 1) != 0) {
                    int group = groupOf(plan, marks, x);
                    left &= ~group;
                    if (Integer.bitCount(group) > Integer.bitCount(greatest)) {
                        greatest = group;
                    }
                }
            }
            return greatest;
        }

        static int fullest(Plan plan, int marks) {
            int fullest = NONE;
            int most = 0;
            for (int row = 0; row < plan.rows; row++) {
                int inRow = (marks >> (row * plan.columns)) & ((1 << plan.columns) - 1);
                if (Integer.bitCount(inRow) > most) {
                    most = Integer.bitCount(inRow);
                    fullest = row;
                }
            }
            return fullest;
        }

        static int like(Plan plan, int marks, int face) {
            return plan.cells() - Integer.bitCount(marks ^ face);
        }

        static int whom(Plan plan, int marks) {
            int whom = NONE;
            int most = NONE;
            for (int f = 0; f < plan.faceCount; f++) {
                int like = like(plan, marks, pick(plan.faces, f));
                if (like > most) {
                    most = like;
                    whom = f;
                }
            }
            return whom;
        }

        static int mayBe(Plan plan, int marks) {
            int set = 0;
            for (int f = 0; f < plan.faceCount; f++) {
                if ((marks & ~pick(plan.faces, f)) == 0) {
                    set |= 1 << f;
                }
            }
            return set;
        }
    }

    /** What is tried on a copy, so that the wall itself stays as it is. */
    private static final class Trial {
        private final Flow flow = new Flow();
        private final Damp damp = new Damp();
        private final Damp[] stages = new Damp[MOST_OFTEN_DAYS];
        private int dayCount, rain, marksWanted;
        int best, bestCount;

        Trial() {
            for (int k = 0; k < stages.length; k++) {
                stages[k] = new Damp();
            }
        }

        int marksBehind(Plan plan, Damp now, int n, int r) {
            damp.copyFrom(now);
            flow.rainDays(plan, damp, n, r);
            return damp.marks();
        }

        int daysTillMarks(Plan plan, Damp now, int m, int r) {
            damp.copyFrom(now);
            for (int k = 0; k <= MOST_DAYS; k++) {
                if (damp.markCount() >= m) {
                    return k;
                }
                flow.rainDay(plan, damp, r);
            }
            return NONE;
        }

        int daysTillDry(Plan plan, Damp now) {
            damp.copyFrom(now);
            for (int k = 0; k <= MOST_DAYS; k++) {
                if (damp.allWet() == 0) {
                    return k;
                }
                flow.rainDay(plan, damp, 0);
            }
            return NONE;
        }

        void leadBest(Plan plan, Damp now, int l, int face, int n, int r) {
            best = NONE;
            bestCount = NONE;
            for (int x = 0; x < plan.cells(); x++) {
                damp.copyFrom(now);
                put(damp.leakAt, l, x);
                flow.rainDays(plan, damp, n, r);
                int like = Marks.like(plan, damp.marks(), face);
                if (like > bestCount) {
                    bestCount = like;
                    best = x;
                }
            }
        }

        int rainsThatShow(Plan plan, Damp now, int set) {
            int rains = 0;
            for (int r = 0; r <= MOST_RAIN; r++) {
                if (marksBehind(plan, now, 1, r) == set) {
                    rains |= 1 << r;
                }
            }
            return rains;
        }

        void rainThatLeavesFewest(Plan plan, Damp now) {
            best = NONE;
            bestCount = MOST_FACES + 1;
            for (int r = 0; r <= MOST_RAIN; r++) {
                int left = Integer.bitCount(Marks.mayBe(plan, marksBehind(plan, now, 1, r)));
                if (left < bestCount) {
                    bestCount = left;
                    best = r;
                }
            }
        }

        void lookMost(Plan plan, Damp now, int n, int r, int m) {
            dayCount = n;
            rain = r;
            marksWanted = m;
            best = NONE;
            bestCount = NONE;
            tryLooks(this, plan, now, 0, 0);
        }

        /** Each day is rained once for all choices that share the looks ahead of it. */
        private static void tryLooks(Trial trial, Plan plan, Damp from, int k, int looked) {
            if (k >= trial.dayCount || k >= trial.stages.length) {
                trial.weigh(from, looked);
                return;
            }
            Damp stage = trial.stages[k];
            stage.copyFrom(from);
            trial.flow.rainDay(plan, stage, trial.rain);
            tryLooks(trial, plan, stage, k + 1, looked);
            stage.shrink(plan);
            tryLooks(trial, plan, stage, k + 1, looked | (1 << k));
        }

        private void weigh(Damp last, int looked) {
            int looks = Integer.bitCount(looked);
            boolean better = looks > bestCount || (looks == bestCount && looked < best);
            if (better && last.markCount() >= marksWanted) {
                bestCount = looks;
                best = looked;
            }
        }
    }

    /** The latest states, in a ring: the oldest gives way to the newest. */
    private static final class Past {
        private final Damp[] ring = new Damp[MOST_UNDONE];
        private int end;
        int count;

        Past() {
            for (int k = 0; k < ring.length; k++) {
                ring[k] = new Damp();
            }
        }

        void clear() {
            count = 0;
        }

        void push(Damp now) {
            if (end >= 0 && end < ring.length) {
                ring[end].copyFrom(now);
            }
            end = end + 1 < MOST_UNDONE ? end + 1 : 0;
            count = Math.min(MOST_UNDONE, count + 1);
        }

        boolean pop(Damp now) {
            if (count <= 0) {
                return false;
            }
            count--;
            end = end > 0 ? end - 1 : MOST_UNDONE - 1;
            if (end >= 0 && end < ring.length) {
                now.copyFrom(ring[end]);
            }
            return true;
        }
    }

    private static final class Book {
        private final int[] cells = new int[MOST_ENTRIES];
        private final int[] wets = new int[MOST_ENTRIES];
        int count;

        void clear() {
            count = 0;
        }

        int add(int x, int wet) {
            if (count >= MOST_ENTRIES) {
                return FULL;
            }
            put(cells, count, x);
            put(wets, count, wet);
            count++;
            return count;
        }

        int firstWrong(Damp now) {
            for (int k = 0; k < count; k++) {
                if (pick(now.wet, pick(cells, k)) != pick(wets, k)) {
                    return k;
                }
            }
            return NONE;
        }
    }

    private static final class Draws {
        int state;

        int draw(int n) {
            // the wrap-around of int keeps the low 31 bits, which are all that is left over
            state = (state * 1103515245 + 12345) & 0x7fffffff;
            return n > 0 ? state / 65536 % n : 0;
        }
    }

    private static final class Image {
        final Damp damp = new Damp();
        int drawState;
        boolean kept;
    }
}
