/** Counts the answers that are not as due; a test ends with exit code 1 if there was one. */
final class Check {
    static final int NONE = -1, UNKNOWN = -1000000001, OUTSIDE = -1000000002, NOT = -1000000003, FULL = -1000000004;

    private final String name;
    private int asked;
    private int wrong;

    Check(String name) {
        this.name = name;
    }

    void due(String call, long got, long want) {
        asked++;
        if (got != want) {
            miss(call + " answered " + got + ", due is " + want);
        }
    }

    void dueText(String call, String got, String want) {
        asked++;
        if (!got.equals(want)) {
            miss(call + " is [" + got + "], due is [" + want + "]");
        }
    }

    private void miss(String what) {
        wrong++;
        if (wrong <= 40) {
            System.out.println(name + ": " + what);
        }
    }

    void cells(String when, DampLikeness d, int... wets) {
        for (int x = 0; x < wets.length; x++) {
            due(when + ": cell(" + x + ")", d.cell(x), wets[x]);
        }
    }

    /** All that can be read of an object, to see that what is refused or tried changes nothing. */
    static String all(DampLikeness d) {
        StringBuilder text = new StringBuilder();
        for (int what = 0; what <= 20; what++) {
            text.append(d.told(what)).append(' ');
        }
        for (int x = 0; x < 25; x++) {
            text.append(d.cell(x)).append(' ');
        }
        for (int l = 0; l < 4; l++) {
            text.append(d.leak(l)).append(' ');
        }
        for (int c = 0; c < 6; c++) {
            text.append(d.crack(c, 0)).append(' ').append(d.crack(c, 1)).append(' ').append(d.crack(c, 2)).append(' ');
        }
        int seed = d.seed(0);
        d.seed(seed);
        return text.append(seed).append(' ').append(d.judge()).append(' ').append(d.fault()).toString();
    }

    static DampLikeness fed(String text) {
        DampLikeness d = new DampLikeness();
        feed(d, text);
        return d;
    }

    static void feed(DampLikeness d, String text) {
        for (int k = 0; k < text.length(); k++) {
            d.feed(text.charAt(k));
        }
    }

    static DampLikeness made(String text) {
        DampLikeness d = fed(text);
        if (d.wall() <= 0) {
            System.out.println("no wall by: " + text);
            System.exit(1);
        }
        return d;
    }

    static int set(int... members) {
        int set = 0;
        for (int member : members) {
            set |= 1 << member;
        }
        return set;
    }

    void finish() {
        System.out.println(name + ": " + asked + " answers, " + wrong + " not as due");
        if (wrong != 0) {
            System.exit(1);
        }
    }
}
