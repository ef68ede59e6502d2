/** Counts the answers that are not as due; a test ends with exit code 1 if there was one. */
final class Check {
    static final int NONE = -1, UNKNOWN = -1000000001, OUTSIDE = -1000000002, NOT = -1000000003, FULL = -1000000004;

    private final String name;
    private final boolean quiet;
    private int asked;
    private int wrong;

    Check(String name) {
        this(name, false);
    }

    /** A quiet one only counts: it is for a class that is broken on purpose. */
    Check(String name, boolean quiet) {
        this.name = name;
        this.quiet = quiet;
    }

    int asked() {
        return asked;
    }

    int wrong() {
        return wrong;
    }

    /** Takes what another one has counted. */
    void add(Check other) {
        asked += other.asked;
        wrong += other.wrong;
    }

    void due(String call, long got, long want) {
        asked++;
        if (got != want) {
            miss(call + " answered " + got + ", due is " + want);
        }
    }

    void dueText(String call, String got, String want) {
        asked++;
        if (!got.equals(want)) {
            miss(call + " is [" + got + "], due is [" + want + "]");
        }
    }

    void miss(String what) {
        wrong++;
        if (!quiet && wrong <= 40) {
            System.out.println(name + ": " + what);
        }
    }

    void cells(String when, DampLikeness d, int... wets) {
        for (int x = 0; x < wets.length; x++) {
            due(when + ": cell(" + x + ")", d.cell(x), wets[x]);
        }
    }

    /** Each of the answers is the one that is due. */
    void dueEach(String calls, int want, int... got) {
        for (int k = 0; k < got.length; k++) {
            due(calls + " (number " + k + ")", got[k], want);
        }
    }

    /** The answers of wall() and fault() to one text on a new object. */
    void text(String text, int wall, int fault) {
        DampLikeness d = fed(text);
        due("[" + text + "] letters", d.told(5), text.length());
        due("[" + text + "] wall()", d.wall(), wall);
        due("[" + text + "] fault()", d.fault(), fault);
        due("[" + text + "] letters behind wall()", d.told(5), 0);
        due("[" + text + "] rows times columns", d.told(0) * d.told(1), Math.max(0, wall));
    }

    /** How wet the cells of a new wall are behind n days of rain r, and that the call counts those that show. */
    void afterDay(String text, int n, int r, int... wets) {
        DampLikeness d = made(text);
        int shows = 0;
        for (int wet : wets) {
            shows += wet >= 3 ? 1 : 0;
        }
        String call = text + " day(" + n + ", " + r + ")";
        due(call, d.day(n, r), shows);
        cells(call, d, wets);
        due(call + ": days", d.told(6), n);
    }

    /** The same behind n days by draws from a seed. */
    void afterDrift(String text, int seed, int n, int... wets) {
        DampLikeness d = made(text);
        d.seed(seed);
        d.drift(n);
        cells(text + " seed " + seed + " drift(" + n + ")", d, wets);
    }

    /** All that can be read of an object, to see that what is refused or tried changes nothing. */
    static String all(DampLikeness d) {
        StringBuilder text = new StringBuilder();
        for (int what = 0; what <= 20; what++) {
            text.append(d.told(what)).append(' ');
        }
        for (int x = 0; x < 25; x++) {
            text.append(d.cell(x)).append(' ');
        }
        for (int l = 0; l < 4; l++) {
            text.append(d.leak(l)).append(' ');
        }
        for (int c = 0; c < 6; c++) {
            text.append(d.crack(c, 0)).append(' ').append(d.crack(c, 1)).append(' ').append(d.crack(c, 2)).append(' ');
        }
        int seed = d.seed(0);
        d.seed(seed);
        return text.append(seed).append(' ').append(d.judge()).append(' ').append(d.fault()).toString();
    }

    static DampLikeness fed(String text) {
        DampLikeness d = new DampLikeness();
        feed(d, text);
        return d;
    }

    static void feed(DampLikeness d, String text) {
        for (int k = 0; k < text.length(); k++) {
            d.feed(text.charAt(k));
        }
    }

    static DampLikeness made(String text) {
        DampLikeness d = fed(text);
        if (d.wall() <= 0) {
            throw new IllegalStateException("no wall by: " + text);
        }
        return d;
    }

    /** A wall on which just a set shows: each cell of it is wet by 8 or 9, all others by 0. Its four leaks are led. */
    static DampLikeness painted(int h, int w, String more, int set) {
        DampLikeness d = made("w" + h + " " + w + ";l0;l0;l0;l0;" + more);
        for (int x = h * w - 1; x >= 0; x -= 4) {
            for (int l = 0; l < 4; l++) {
                d.lead(l, Math.max(0, x - l));
            }
            d.day(1, 9);
        }
        for (int x = 0; x < h * w; x++) {
            if ((set >> x & 1) == 0) {
                d.brush(x);
            }
        }
        if (d.told(8) != set) {
            throw new IllegalStateException(set + " is not painted, but " + d.told(8));
        }
        return d;
    }

    static int set(int... members) {
        int set = 0;
        for (int member : members) {
            set |= 1 << member;
        }
        return set;
    }

    void finish() {
        System.out.println(name + ": " + asked + " answers, " + wrong + " not as due");
        if (wrong != 0) {
            System.exit(1);
        }
    }
}
