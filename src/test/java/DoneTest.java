/** Promises 5 to 17: what is wet, what shows, and what is done to it. */
public final class DoneTest {
    private static final Check CHECK = new Check("DoneTest");

    public static void main(String[] args) {
        rainAndRunning();
        wind();
        cracks();
        nineAtMost();
        dryDays();
        dayRefused();
        looks();
        brushes();
        leads();
        windRefused();
        fills();
        marks();
        marksOfAnotherWall();
        likenesses();
        drifts();
        driftRefused();
        undone();
        undoLosesTheOldest();
        fullDays();
        CHECK.finish();
    }

    private static void afterDay(String text, int n, int r, int... wets) {
        CHECK.afterDay(text, n, r, wets);
    }

    private static DampLikeness painted(String more, int set) {
        return Check.painted(3, 4, more, set);
    }

    private static void rainAndRunning() {
        afterDay("w2 2;l0;", 1, 0, 0, 0, 0, 0);
        afterDay("w2 2;l0;", 1, 1, 1, 0, 0, 0);
        afterDay("w2 2;l0;", 1, 2, 1, 0, 1, 0);
        afterDay("w2 2;l0;", 1, 9, 8, 0, 1, 0);
        afterDay("w2 2;l0;", 2, 3, 4, 0, 2, 0);
        afterDay("w2 2;l3;", 1, 3, 0, 0, 0, 3);
        afterDay("w2 2;l3;", 2, 1, 0, 0, 0, 2);
        afterDay("w2 2;", 3, 9, 0, 0, 0, 0);
        // what comes on a day does not run on the same day
        afterDay("w3 2;l0;", 1, 9, 8, 0, 1, 0, 0, 0);
        afterDay("w3 2;l0;", 2, 9, 8, 0, 2, 0, 0, 0);
        afterDay("w3 2;l0;", 3, 9, 8, 0, 2, 0, 1, 0);
    }

    private static void wind() {
        afterDay("w2 2;l0;n2;", 1, 3, 2, 0, 1, 0);
        afterDay("w2 2;l0;n2;", 1, 4, 2, 1, 1, 0);
        afterDay("w2 2;l0;n1;", 1, 4, 3, 0, 1, 0);
        afterDay("w2 2;l1;n1;", 1, 4, 1, 2, 0, 1);
        afterDay("w2 2;l1;n2;", 1, 9, 0, 8, 0, 1);
        afterDay("w2 2;l2;n2;", 1, 4, 0, 0, 3, 1);
        afterDay("w2 3;l2;n2;", 1, 9, 0, 0, 8, 0, 0, 1);
        afterDay("w2 3;l3;n1;", 1, 9, 0, 0, 0, 9, 0, 0);
    }

    private static void cracks() {
        afterDay("w2 2;l0;c0 1;", 1, 1, 1, 0, 0, 0);
        afterDay("w2 2;l0;c0 1;", 1, 2, 0, 1, 1, 0);
        afterDay("w2 2;l0;c1 0;", 1, 2, 0, 1, 1, 0);
        afterDay("w2 2;l2;c2 3;", 1, 1, 0, 0, 1, 0);
        afterDay("w2 2;l2;c2 3;", 1, 2, 0, 0, 1, 1);
        afterDay("w2 2;l2;c0 2;", 1, 2, 1, 0, 1, 0);
        // as long as it has 1 left, in the order of the cracks
        afterDay("w2 2;l0;c0 1;c0 2;", 1, 2, 0, 1, 1, 0);
        afterDay("w2 2;l0;c0 2;c0 1;", 1, 2, 0, 0, 2, 0);
        afterDay("w3 3;l4;n2;c4 1;c4 3;c4 5;c4 7;", 1, 4, 0, 1, 0, 1, 0, 1, 0, 1, 0);
        afterDay("w3 3;l4;n2;c4 7;c4 5;c4 3;c4 1;", 1, 4, 0, 0, 0, 0, 0, 2, 0, 2, 0);
        afterDay("w3 3;l4;n2;c4 1;c4 3;c4 5;c4 7;", 1, 6, 0, 1, 0, 1, 0, 2, 0, 2, 0);
        // 2 more by what was wet ahead of the running, not by what is left
        afterDay("w2 2;l2;l3;l3;c2 3;", 1, 1, 0, 0, 1, 2);
        afterDay("w2 2;l2;l3;l3;c2 3;", 1, 2, 0, 0, 3, 3);
        afterDay("w2 2;l2;l3;l3;l3;c2 3;", 1, 1, 0, 0, 2, 2);
    }

    private static void nineAtMost() {
        afterDay("w2 2;l3;l3;", 1, 5, 0, 0, 0, 9);
        afterDay("w2 2;l0;l0;", 1, 5, 8, 0, 1, 0);
        afterDay("w2 2;l0;l2;", 1, 9, 8, 0, 9, 0);
        // it gives 1 and takes 1
        afterDay("w3 2;l0;l2;", 1, 9, 8, 0, 9, 0, 1, 0);
    }

    private static void dryDays() {
        DampLikeness d = Check.made("w2 2;l0;");
        d.day(1, 9);
        CHECK.due("a dry day", d.day(1, 0), 1);
        CHECK.cells("a dry day", d, 6, 0, 1, 0);
        CHECK.due("dry days", d.day(2, 0), 0);
        CHECK.cells("dry days", d, 2, 0, 1, 0);
        d.day(60, 0);
        CHECK.cells("60 dry days", d, 0, 0, 0, 0);
        CHECK.due("days", d.told(6), 64);
    }

    private static void dayRefused() {
        DampLikeness none = new DampLikeness();
        CHECK.due("no wall: day(0, 0)", none.day(0, 0), Check.OUTSIDE);
        CHECK.due("no wall: day(1, 10)", none.day(1, 10), Check.OUTSIDE);
        CHECK.due("no wall: day(1, 0)", none.day(1, 0), Check.NOT);
        DampLikeness d = Check.made("w2 2;l0;");
        d.day(2, 9);
        String ahead = Check.all(d);
        int[][] wrong = {{0, 5}, {61, 5}, {-1, 5}, {1, -1}, {1, 10}, {Integer.MAX_VALUE, 0}, {1, Integer.MIN_VALUE}};
        for (int[] pair : wrong) {
            CHECK.due("day(" + pair[0] + ", " + pair[1] + ")", d.day(pair[0], pair[1]), Check.OUTSIDE);
        }
        CHECK.dueText("refused days", Check.all(d), ahead);
        CHECK.due("day(60, 9)", d.day(60, 9), 2);
    }

    private static void looks() {
        CHECK.due("no wall: look()", new DampLikeness().look(), Check.NOT);
        DampLikeness d = Check.made("w2 2;l2;l3;");
        d.day(1, 5);
        CHECK.due("look()", d.look(), 2);
        CHECK.cells("look()", d, 0, 0, 3, 3);
        CHECK.due("look() again", d.look(), 0);
        CHECK.cells("look() again", d, 0, 0, 1, 1);
        CHECK.due("look() at nothing", d.look(), 0);
        CHECK.cells("look() at nothing", d, 0, 0, 1, 1);
        CHECK.due("looks", d.told(10), 3);
        // by what shows ahead of it: the middle one keeps its two
        DampLikeness row = Check.made("w2 3;l3;l4;l5;");
        row.day(1, 3);
        CHECK.due("look() at a row", row.look(), 1);
        CHECK.cells("look() at a row", row, 0, 0, 0, 1, 3, 1);
        DampLikeness corner = Check.made("w2 2;l0;");
        corner.day(1, 4);
        CHECK.due("look() at a corner", corner.look(), 0);
        CHECK.cells("look() at a corner", corner, 1, 0, 1, 0);
        DampLikeness square = Check.made("w2 2;l0;l1;l2;l3;");
        square.day(1, 5);
        CHECK.due("look() at a square", square.look(), 4);
        CHECK.cells("look() at a square", square, 4, 4, 6, 6);
        // the last cell of a row is not beside the first of the next one
        DampLikeness apart = painted("", Check.set(2, 3, 4, 5));
        int[] ahead = {apart.cell(2), apart.cell(3), apart.cell(4), apart.cell(5)};
        apart.look();
        CHECK.cells("look() at two pairs", apart, 0, 0, ahead[0] - 2, ahead[1] - 2, ahead[2] - 2, ahead[3] - 2);
        DampLikeness tall = painted("", Check.set(1, 5, 9));
        int middle = tall.cell(5);
        int top = tall.cell(1);
        tall.look();
        CHECK.due("look(): two above and below", tall.cell(5), middle);
        CHECK.due("look(): one below", tall.cell(1), top - 2);
    }

    private static void brushes() {
        CHECK.due("no wall: brush(0)", new DampLikeness().brush(0), Check.UNKNOWN);
        DampLikeness d = Check.made("w2 2;l0;");
        d.day(1, 9);
        String ahead = Check.all(d);
        CHECK.due("brush(-1)", d.brush(-1), Check.UNKNOWN);
        CHECK.due("brush(4)", d.brush(4), Check.UNKNOWN);
        CHECK.dueText("refused brushes", Check.all(d), ahead);
        CHECK.due("brush(0)", d.brush(0), 8);
        CHECK.due("brush(0) again", d.brush(0), 0);
        CHECK.due("brush(2)", d.brush(2), 1);
        CHECK.due("brushes", d.told(11), 3);
        CHECK.cells("brushed", d, 0, 0, 0, 0);
        CHECK.due("cell(-1)", d.cell(-1), Check.UNKNOWN);
        CHECK.due("cell(4)", d.cell(4), Check.UNKNOWN);
    }

    private static void leads() {
        CHECK.due("no wall: lead(0, 0)", new DampLikeness().lead(0, 0), Check.UNKNOWN);
        DampLikeness d = Check.made("w2 2;l0;l1;");
        String ahead = Check.all(d);
        CHECK.due("lead(-1, 0)", d.lead(-1, 0), Check.UNKNOWN);
        CHECK.due("lead(2, 0)", d.lead(2, 0), Check.UNKNOWN);
        CHECK.due("lead(0, -1)", d.lead(0, -1), Check.UNKNOWN);
        CHECK.due("lead(0, 4)", d.lead(0, 4), Check.UNKNOWN);
        CHECK.dueText("refused leads", Check.all(d), ahead);
        CHECK.due("lead(1, 3)", d.lead(1, 3), 1);
        CHECK.due("lead(1, 3) again", d.lead(1, 3), 3);
        CHECK.due("leak(0)", d.leak(0), 0);
        CHECK.due("leak(1)", d.leak(1), 3);
        CHECK.due("leak(2)", d.leak(2), Check.UNKNOWN);
        CHECK.due("leak(-1)", d.leak(-1), Check.UNKNOWN);
        CHECK.due("can be undone", d.told(20), 2);
        d.day(1, 3);
        CHECK.cells("led", d, 2, 0, 1, 3);
    }

    private static void windRefused() {
        DampLikeness none = new DampLikeness();
        CHECK.due("no wall: wind(3)", none.wind(3), Check.OUTSIDE);
        CHECK.due("no wall: wind(0)", none.wind(0), Check.NOT);
        DampLikeness d = Check.made("w2 2;l0;n1;");
        CHECK.due("wind(-1)", d.wind(-1), Check.OUTSIDE);
        CHECK.due("wind(3)", d.wind(3), Check.OUTSIDE);
        CHECK.due("refused winds", d.told(20), 0);
        CHECK.due("wind(2)", d.wind(2), 1);
        CHECK.due("told(7)", d.told(7), 2);
        d.day(1, 4);
        CHECK.cells("another wind", d, 2, 1, 1, 0);
        CHECK.due("wind(0)", d.wind(0), 2);
        CHECK.due("wind(0) again", d.wind(0), 0);
        CHECK.due("can be undone", d.told(20), 4);
    }

    private static void fills() {
        CHECK.due("no wall: fill(0, true)", new DampLikeness().fill(0, true), Check.UNKNOWN);
        DampLikeness d = Check.made("w2 2;l0;c0 1;c1 3;");
        CHECK.due("fill(-1, true)", d.fill(-1, true), Check.UNKNOWN);
        CHECK.due("fill(2, true)", d.fill(2, true), Check.UNKNOWN);
        CHECK.due("refused fills", d.told(20), 0);
        CHECK.due("fill(0, false)", d.fill(0, false), 0);
        CHECK.due("fill(0, true)", d.fill(0, true), 0);
        CHECK.due("fill(1, true)", d.fill(1, true), 0);
        CHECK.due("told(9)", d.told(9), 3);
        CHECK.due("fill(1, false)", d.fill(1, false), 1);
        CHECK.due("told(9)", d.told(9), 1);
        CHECK.due("crack(0, 2)", d.crack(0, 2), 1);
        CHECK.due("crack(1, 2)", d.crack(1, 2), 0);
        CHECK.due("crack(1, 0)", d.crack(1, 0), 1);
        CHECK.due("crack(1, 1)", d.crack(1, 1), 3);
        CHECK.due("crack(2, 9)", d.crack(2, 9), Check.UNKNOWN);
        CHECK.due("crack(-1, 0)", d.crack(-1, 0), Check.UNKNOWN);
        CHECK.due("crack(0, 3)", d.crack(0, 3), Check.OUTSIDE);
        CHECK.due("crack(0, -1)", d.crack(0, -1), Check.OUTSIDE);
        d.day(1, 5);
        CHECK.cells("filled", d, 4, 0, 1, 0);
        CHECK.due("open again", d.fill(0, false), 1);
        d.day(1, 0);
        CHECK.cells("open again", d, 1, 0, 1, 0);
        CHECK.due("can be undone", d.told(20), 7);
    }

    private static void shape(int set, int groups, int greatest, int border, int fullest) {
        DampLikeness d = painted("", set);
        CHECK.due(set + ": groups", d.told(15), groups);
        CHECK.due(set + ": greatest", d.told(16), greatest);
        CHECK.due(set + ": border", d.told(17), border);
        CHECK.due(set + ": fullest", d.told(18), fullest);
    }

    private static void marks() {
        shape(0, 0, 0, 0, Check.NONE);
        shape(4095, 1, 4095, 14, 0);
        shape(Check.set(11), 1, Check.set(11), 4, 2);
        shape(Check.set(0, 1, 4, 3, 7, 10), 3, Check.set(0, 1, 4), 18, 0);
        shape(Check.set(3, 7, 0, 4), 2, Check.set(0, 4), 12, 0);
        shape(Check.set(2, 3, 7, 8, 9, 10), 2, Check.set(2, 3, 7), 16, 2);
        shape(Check.set(3, 4), 2, Check.set(3), 8, 0);
        shape(Check.set(0, 4, 5, 9, 10, 11, 7, 3, 2), 1, Check.set(0, 4, 5, 9, 10, 11, 7, 3, 2), 20, 0);
        shape(Check.set(0, 1, 4, 8, 9, 10), 1, Check.set(0, 1, 4, 8, 9, 10), 14, 2);
        shape(Check.set(0, 4, 5), 1, Check.set(0, 4, 5), 8, 1);
        shape(Check.set(0, 5, 10), 3, Check.set(0), 12, 0);
        shape(Check.set(0, 2, 3, 8, 9, 10, 11), 3, Check.set(8, 9, 10, 11), 20, 2);
        DampLikeness d = Check.made("w2 2;l0;l3;");
        d.day(1, 2);
        CHECK.due("2 is no mark", d.told(8), 0);
        d.day(1, 1);
        CHECK.due("3 is a mark", d.told(8), 8);
        CHECK.due("all wet", d.told(12), 6);
    }

    /** Another wall has other columns: what lies beside what must not stay as it was. */
    private static void marksOfAnotherWall() {
        DampLikeness d = Check.made("w5 2;");
        Check.feed(d, "w2 3;l3;l4;l5;");
        d.wall();
        d.day(1, 5);
        CHECK.due("groups", d.told(15), 1);
        CHECK.due("border", d.told(17), 8);
        CHECK.due("look()", d.look(), 3);
        CHECK.cells("look()", d, 0, 0, 0, 3, 5, 3);
    }

    private static void likenesses() {
        DampLikeness d = painted("f15,0,0;f3,1,0;f7,1,0;f3,1,1;f0,0,0;", Check.set(0, 1, 4));
        int[] faces = {15, 19, 23, 275, 0};
        int[] like = {9, 12, 11, 11, 9};
        int[] brushes = {1, 0, 0, 0, 3};
        for (int f = 0; f < faces.length; f++) {
            CHECK.due("likeness(" + f + ", 0)", d.likeness(f, 0), faces[f]);
            CHECK.due("likeness(" + f + ", 1)", d.likeness(f, 1), like[f]);
            CHECK.due("likeness(" + f + ", 2)", d.likeness(f, 2), brushes[f]);
            CHECK.due("likeness(" + f + ", 3)", d.likeness(f, 3), Check.OUTSIDE);
            CHECK.due("likeness(" + f + ", -1)", d.likeness(f, -1), Check.OUTSIDE);
        }
        CHECK.due("likeness(5, 9)", d.likeness(5, 9), Check.UNKNOWN);
        CHECK.due("likeness(-1, 0)", d.likeness(-1, 0), Check.UNKNOWN);
        CHECK.due("whom", d.told(13), 1);
        CHECK.due("may be", d.told(14), Check.set(1, 2, 3));
        d.brush(4);
        CHECK.due("whom, brushed", d.told(13), 1);
        CHECK.due("may be, brushed", d.told(14), Check.set(0, 1, 2, 3));
        DampLikeness alike = painted("f15,0,0;f0,15,0;f0,15,0;", Check.set(4, 5, 6));
        CHECK.due("whom: of like ones the least", alike.told(13), 1);
        CHECK.due("may be: both", alike.told(14), 6);
        DampLikeness nobody = painted("", 7);
        CHECK.due("whom: there are none", nobody.told(13), Check.NONE);
        CHECK.due("may be: there are none", nobody.told(14), 0);
        CHECK.due("whom: one that is nothing like", painted("f0,0,0;", 4095).told(13), 0);
    }

    private static void drifts() {
        String[] texts = {"w3 4;l1;l6;c0 1;c5 6;n1;", "w2 2;c0 1;n2;", "w2 3;l4;", "w5 5;l0;l12;l13;l24;c12 17;n2;"};
        for (String text : texts) {
            for (long first = 0; first < 2147483648L; first += 268435455L) {
                int start = (int) first;
                DampLikeness d = Check.made(text);
                DampLikeness byHand = Check.made(text);
                Lots lots = new Lots(start);
                d.seed(start);
                for (int n = 1; n <= 60; n += 9) {
                    int shows = d.drift(n);
                    for (int k = 0; k < n; k++) {
                        byHandOneDay(byHand, lots);
                    }
                    CHECK.due(text + " drift(" + n + ")", shows, Integer.bitCount(byHand.told(8)));
                    CHECK.due(text + " the seed", d.seed((int) lots.seed), lots.seed);
                }
                CHECK.due("can be undone", d.told(20), 7);
                d.keep(0);
                byHand.keep(0);
                byHand.seed((int) lots.seed);
                CHECK.dueText(text + " drifted from " + start, Check.all(d), Check.all(byHand));
            }
        }
    }

    private static void byHandOneDay(DampLikeness d, Lots lots) {
        d.day(1, lots.draw(10));
        int turn = lots.draw(6);
        if (turn == 0) {
            d.look();
        }
        if (turn == 1) {
            d.wind(lots.draw(3));
        }
        if (turn == 2 && d.told(2) > 0) {
            int l = lots.draw(d.told(2));
            d.lead(l, lots.draw(d.told(0) * d.told(1)));
        }
    }

    private static void driftRefused() {
        DampLikeness none = new DampLikeness();
        CHECK.due("no wall: drift(0)", none.drift(0), Check.OUTSIDE);
        CHECK.due("no wall: drift(1)", none.drift(1), Check.NOT);
        DampLikeness d = Check.made("w2 2;l0;");
        d.seed(4);
        String ahead = Check.all(d);
        CHECK.due("drift(0)", d.drift(0), Check.OUTSIDE);
        CHECK.due("drift(61)", d.drift(61), Check.OUTSIDE);
        CHECK.due("drift(-1)", d.drift(-1), Check.OUTSIDE);
        CHECK.dueText("refused drifts", Check.all(d), ahead);
    }

    private static void undone() {
        CHECK.due("no wall: undo()", new DampLikeness().undo(), Check.NOT);
        DampLikeness d = Check.made("w3 3;l1;l6;c1 2;f7,0,0;n2;");
        d.seed(3);
        String[] ahead = new String[7];
        for (int k = 0; k < 7; k++) {
            ahead[k] = withoutSeed(d);
            switch (k) {
                case 0: d.day(5, 9); break;
                case 1: d.look(); break;
                case 2: d.brush(6); break;
                case 3: d.lead(1, 0); break;
                case 4: d.wind(1); break;
                case 5: d.fill(0, true); break;
                default: d.drift(60);
            }
        }
        int seed = d.seed(3);
        d.seed(seed);
        for (int k = 6; k >= 0; k--) {
            CHECK.due("undo()", d.undo(), k);
            CHECK.dueText("undone " + k, withoutSeed(d), ahead[k]);
            CHECK.due("the seed stays", d.seed(seed), seed);
        }
        CHECK.due("undo() of nothing", d.undo(), Check.NOT);
        CHECK.dueText("nothing undone", withoutSeed(d), ahead[0]);
    }

    private static String withoutSeed(DampLikeness d) {
        int seed = d.seed(0);
        String text = Check.all(d);
        d.seed(seed);
        return text;
    }

    private static void undoLosesTheOldest() {
        DampLikeness d = Check.made("w2 2;l3;");
        for (int k = 1; k <= 20; k++) {
            d.day(k, 0);
            CHECK.due("can be undone", d.told(20), Math.min(16, k));
        }
        int days = 210;
        for (int k = 20; k > 4; k--) {
            days -= k;
            CHECK.due("undo()", d.undo(), k - 5);
            CHECK.due("days", d.told(6), days);
        }
        CHECK.due("the oldest are lost", d.undo(), Check.NOT);
        CHECK.due("days", d.told(6), 10);
        d.day(1, 0);
        CHECK.due("undo() goes on", d.undo(), 0);
        CHECK.due("days", d.told(6), 10);
        // up and down across the ring's end
        for (int k = 0; k < 40; k++) {
            d.brush(0);
            d.brush(1);
            d.brush(2);
            CHECK.due("undo()", d.undo(), Math.min(16, 2 * k + 3) - 1);
            CHECK.due("brushes", d.told(11), 2 * k + 2);
        }
    }

    private static void fullDays() {
        DampLikeness d = Check.made("w2 2;l3;");
        for (int k = 0; k < 150; k++) {
            d.day(60, 1);
        }
        CHECK.due("days", d.told(6), 9000);
        CHECK.due("9000 are not above 9000: drift(1)", d.drift(1), 1);
        CHECK.due("9001 are: day(1, 1)", d.day(1, 1), Check.FULL);
        CHECK.due("9001 are: drift(1)", d.drift(1), Check.FULL);
        CHECK.due("undo()", d.undo(), 15);
        CHECK.due("9000 are not above 9000: day(60, 1)", d.day(60, 1), 1);
        CHECK.due("days", d.told(6), 9060);
        d.seed(8);
        String ahead = Check.all(d);
        CHECK.due("day(1, 1)", d.day(1, 1), Check.FULL);
        CHECK.due("day(0, 1)", d.day(0, 1), Check.OUTSIDE);
        CHECK.due("drift(1)", d.drift(1), Check.FULL);
        CHECK.due("drift(61)", d.drift(61), Check.OUTSIDE);
        CHECK.dueText("refused when full", Check.all(d), ahead);
        CHECK.due("look() still", d.look(), 1);
        CHECK.due("shown() still", d.shown(60, 9), 8);
    }
}
