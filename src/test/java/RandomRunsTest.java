import java.util.Random;

/** Runs of calls by lot (the same each time) on the class and on the model: each answer must be the same. */
public final class RandomRunsTest {
    private static final int RUNS = 1500, CALLS = 512;

    private final Random lots;
    private final Check check;
    private final DampLikeness d = new DampLikeness();
    private final Model m = new Model();
    private int calls;
    private int wall;

    private RandomRunsTest(Check check, int run) {
        this.check = check;
        this.lots = new Random(run);
    }

    public static void main(String[] args) {
        Check check = new Check("RandomRunsTest");
        int runs = args.length > 0 ? Integer.parseInt(args[0]) : RUNS;
        for (int run = 0; run < runs; run++) {
            new RandomRunsTest(check, run).run(run);
        }
        check.finish();
    }

    private void run(int run) {
        boolean texts = run % 5 == 0;
        tellWall(texts);
        // long texts come late in a run too, so that what they clear is seen
        while (calls < CALLS - 250) {
            int turn = lots.nextInt(texts ? 30 : 300);
            if (turn == 0) {
                tellWall(texts);
            } else if (turn % 2 == 0) {
                done();
            } else {
                asked();
            }
        }
        readAll();
    }

    private void same(String call, int got, int want) {
        calls++;
        check.due("run of " + calls + ": " + call, got, want);
    }

    private int lot(int n) {
        return lots.nextInt(n);
    }

    /** A number within its bounds, now and then one out of them. */
    private int near(int least, int most) {
        int turn = lot(40);
        if (turn == 0) {
            return least - 1;
        }
        if (turn == 1) {
            return most + 1;
        }
        if (turn == 2) {
            return lots.nextInt();
        }
        return turn < 6 ? most : turn < 9 ? least : least + lot(most - least + 1);
    }

    // ---- texts

    private void tellWall(boolean withFaults) {
        StringBuilder text = new StringBuilder(goodText());
        if (withFaults || lot(8) == 0) {
            for (int k = lot(4); k >= 0; k--) {
                spoil(text);
            }
        }
        for (int k = 0; k < text.length() && calls < CALLS; k++) {
            same("feed(" + (int) text.charAt(k) + ")", d.feed(text.charAt(k)), m.feed(text.charAt(k)));
        }
        int got = d.wall();
        same("wall() of [" + text + "]", got, m.wall());
        same("fault() of [" + text + "]", d.fault(), m.fault());
        wall = got > 0 ? got : m.told(0) * m.told(1);
    }

    private String goodText() {
        int h = 2 + lot(4);
        int w = 2 + lot(4);
        StringBuilder text = new StringBuilder("w" + h + " " + w + ";");
        for (int k = lot(5); k > 0; k--) {
            text.append('l').append(lot(h * w)).append(';');
        }
        int cracks = 0;
        StringBuilder seen = new StringBuilder();
        for (int tries = 0; tries < 30 && cracks < 6; tries++) {
            int a = lot(h * w);
            int b = lot(2) == 0 ? a + w : a % w + 1 < w ? a + 1 : -1;
            if (b > 0 && b < h * w && seen.indexOf("<" + a + " " + b + ">") < 0) {
                seen.append('<').append(a).append(' ').append(b).append('>');
                text.append('c').append(lot(2) == 0 ? a + " " + b : b + " " + a).append(';');
                cracks += 1 + lot(2);
            }
        }
        for (int k = lot(6); k > 0; k--) {
            text.append('f');
            for (int row = 0; row < h; row++) {
                text.append(row > 0 ? "," : "").append(lot(1 << w));
            }
            text.append(';');
        }
        return text.append(lot(3) == 0 ? "" : "n" + lot(3) + ";").toString();
    }

    private void spoil(StringBuilder text) {
        String letters = "wlcfn;;,, 0123456789 0123456789xW" + (char) 0 + (char) 200;
        int at = lot(text.length() + 1);
        int turn = lot(4);
        char letter = letters.charAt(lot(letters.length()));
        if (turn == 0 && at < text.length()) {
            text.deleteCharAt(at);
        } else if (turn == 1 && at < text.length()) {
            text.setCharAt(at, letter);
        } else if (turn == 2) {
            int clause = text.indexOf(";", at) + 1;
            String[] more = {"l0;", "c0 1;", "c1 0;", "n1;", "w2 2;", "f1,1;", "f0,0,0;", "l1;", "  "};
            text.insert(clause, more[lot(more.length)]);
        } else {
            text.insert(at, letter);
        }
        if (text.length() == 0) {
            text.append(' ');
        }
    }

    // ---- calls

    private void done() {
        switch (lot(12)) {
            case 0: case 1: case 2: {
                int n = lot(3) == 0 ? near(1, 60) : near(1, 4);
                int r = near(0, 9);
                same("day(" + n + ", " + r + ")", d.day(n, r), m.day(n, r));
                break;
            }
            case 3: same("look()", d.look(), m.look()); break;
            case 4: {
                int x = near(0, wall - 1 + (wall == 0 ? 1 : 0));
                same("brush(" + x + ")", d.brush(x), m.brush(x));
                break;
            }
            case 5: case 6: {
                int l = near(0, 3);
                int x = near(0, Math.max(0, wall - 1));
                same("lead(" + l + ", " + x + ")", d.lead(l, x), m.lead(l, x));
                break;
            }
            case 7: {
                int n = near(0, 2);
                same("wind(" + n + ")", d.wind(n), m.wind(n));
                break;
            }
            case 8: {
                int c = near(0, 5);
                boolean is = lots.nextBoolean();
                same("fill(" + c + ", " + is + ")", d.fill(c, is), m.fill(c, is));
                break;
            }
            case 9: {
                int n = near(1, 60);
                same("drift(" + n + ")", d.drift(n), m.drift(n));
                break;
            }
            case 10: same("undo()", d.undo(), m.undo()); break;
            default: bookAndImages();
        }
    }

    private void bookAndImages() {
        int i = near(0, 1);
        switch (lot(7)) {
            case 0: same("keep(" + i + ")", d.keep(i), m.keep(i)); break;
            case 1: same("goBack(" + i + ")", d.goBack(i), m.goBack(i)); break;
            case 2: same("tear()", d.tear(), m.tear()); break;
            case 3: {
                int v = lots.nextInt();
                same("seed(" + v + ")", d.seed(v), m.seed(v));
                break;
            }
            default: {
                int x = near(0, Math.max(0, wall - 1));
                int wet = lot(3) == 0 || x < 0 || x >= wall ? near(0, 9) : m.cell(x);
                same("write(" + x + ", " + wet + ")", d.write(x, wet), m.write(x, wet));
            }
        }
        same("judge()", d.judge(), m.judge());
    }

    private void asked() {
        int what = near(0, 1);
        int r = near(0, 9);
        switch (lot(14)) {
            case 0: {
                int n = near(0, 60);
                same("shown(" + n + ", " + r + ")", d.shown(n, r), m.shown(n, r));
                break;
            }
            case 1: {
                int marks = lot(4) == 0 ? near(0, 25) : near(0, 8);
                same("first(" + marks + ", " + r + ")", d.first(marks, r), m.first(marks, r));
                break;
            }
            case 2: leadTo(r, what); break;
            case 3: often(r, what); break;
            case 4: {
                int set = lot(2) == 0 ? m.shown(1, lot(10)) : lot(2) == 0 ? lots.nextInt() : lot(1 << Math.max(1, wall));
                same("wasRain(" + set + ")", d.wasRain(set), m.wasRain(set));
                break;
            }
            case 5: same("rainToTell(" + what + ")", d.rainToTell(what), m.rainToTell(what)); break;
            case 6: same("dryIn()", d.dryIn(), m.dryIn()); break;
            case 7: {
                int f = near(0, 4);
                int g = near(0, 4);
                same("either(" + f + ", " + g + ", " + what + ")", d.either(f, g, what), m.either(f, g, what));
                break;
            }
            case 8: {
                int n = near(0, 60);
                int q = near(0, 100);
                same("rainy(" + n + ", " + q + ")", d.rainy(n, q), m.rainy(n, q));
                break;
            }
            default: read();
        }
    }

    private void leadTo(int r, int what) {
        int l = near(0, 3);
        int f = near(0, 4);
        int n = lot(4) == 0 ? near(1, 20) : near(1, 5);
        String call = "leadTo(" + l + ", " + f + ", " + n + ", " + r + ", " + what + ")";
        same(call, d.leadTo(l, f, n, r, what), m.leadTo(l, f, n, r, what));
    }

    private void often(int r, int what) {
        int n = lot(6) == 0 ? near(1, 8) : near(1, 5);
        int marks = lot(6) == 0 ? near(0, 25) : near(0, 6);
        String call = "often(" + n + ", " + r + ", " + marks + ", " + what + ")";
        same(call, d.often(n, r, marks, what), m.often(n, r, marks, what));
    }

    private void read() {
        int c = near(0, 5);
        int three = near(0, 2);
        switch (lot(5)) {
            case 0: same("crack(" + c + ", " + three + ")", d.crack(c, three), m.crack(c, three)); break;
            case 1: same("likeness(" + c + ", " + three + ")", d.likeness(c, three), m.likeness(c, three)); break;
            case 2: same("leak(" + c + ")", d.leak(c), m.leak(c)); break;
            default: {
                int what = near(0, 20);
                same("told(" + what + ")", d.told(what), m.told(what));
            }
        }
    }

    private void readAll() {
        for (int what = 0; what <= 20; what++) {
            same("told(" + what + ")", d.told(what), m.told(what));
        }
        for (int x = -1; x <= 25; x++) {
            same("cell(" + x + ")", d.cell(x), m.cell(x));
        }
        for (int l = -1; l <= 4; l++) {
            same("leak(" + l + ")", d.leak(l), m.leak(l));
        }
        for (int f = 0; f < 5; f++) {
            for (int what = 0; what < 3; what++) {
                same("likeness(" + f + ", " + what + ")", d.likeness(f, what), m.likeness(f, what));
            }
        }
        for (int c = 0; c < 6; c++) {
            for (int what = 0; what < 3; what++) {
                same("crack(" + c + ", " + what + ")", d.crack(c, what), m.crack(c, what));
            }
        }
        for (int more = 0; more < 17; more++) {
            same("undo()", d.undo(), m.undo());
            same("told(8)", d.told(8), m.told(8));
        }
        same("goBack(1)", d.goBack(1), m.goBack(1));
        same("told(8)", d.told(8), m.told(8));
        same("seed(0)", d.seed(0), m.seed(0));
    }
}
