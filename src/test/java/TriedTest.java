/** Promises 18 to 26: what is tried. */
public final class TriedTest {
    private static final Check CHECK = new Check("TriedTest");
    private static final String WALL = "w3 3;l1;l6;c1 2;c4 3;c8 5;f7,5,2;f2,6,1;f7,7,7;f2,2,0;n2;";

    public static void main(String[] args) {
        shown();
        first();
        leadTo();
        leadToRefused();
        often();
        oftenRefused();
        wasRain();
        rainToTell();
        dryIn();
        either();
        rainy();
        CHECK.finish();
    }

    private static DampLikeness wetWall() {
        DampLikeness d = Check.made(WALL);
        d.day(2, 7);
        d.lead(1, 3);
        d.fill(0, true);
        d.day(3, 6);
        return d;
    }

    private static void shown() {
        DampLikeness none = new DampLikeness();
        CHECK.due("no wall: shown(0, 0)", none.shown(0, 0), Check.NOT);
        CHECK.due("no wall: shown(61, 0)", none.shown(61, 0), Check.OUTSIDE);
        DampLikeness d = Check.made("w2 2;l0;l3;");
        CHECK.due("shown(0, 9)", d.shown(0, 9), 0);
        CHECK.due("shown(1, 2)", d.shown(1, 2), 0);
        CHECK.due("shown(1, 3)", d.shown(1, 3), 8);
        CHECK.due("shown(1, 4)", d.shown(1, 4), 9);
        CHECK.due("shown(2, 9)", d.shown(2, 9), 9);
        CHECK.due("shown(3, 9)", d.shown(3, 9), 13);
        CHECK.due("shown(-1, 0)", d.shown(-1, 0), Check.OUTSIDE);
        CHECK.due("shown(61, 0)", d.shown(61, 0), Check.OUTSIDE);
        CHECK.due("shown(0, -1)", d.shown(0, -1), Check.OUTSIDE);
        CHECK.due("shown(0, 10)", d.shown(0, 10), Check.OUTSIDE);
        for (int n = 1; n <= 60; n += 7) {
            for (int r = 0; r <= 9; r++) {
                DampLikeness wet = wetWall();
                int shown = wet.shown(n, r);
                wet.day(n, r);
                CHECK.due("shown(" + n + ", " + r + ")", shown, wet.told(8));
            }
        }
    }

    private static void first() {
        DampLikeness none = new DampLikeness();
        CHECK.due("no wall: first(0, 0)", none.first(0, 0), Check.NOT);
        CHECK.due("no wall: first(26, 0)", none.first(26, 0), Check.OUTSIDE);
        DampLikeness d = Check.made("w2 2;l0;l3;");
        CHECK.due("first(0, 0)", d.first(0, 0), 0);
        CHECK.due("first(1, 1)", d.first(1, 1), 3);
        CHECK.due("first(1, 3)", d.first(1, 3), 1);
        CHECK.due("first(2, 9)", d.first(2, 9), 1);
        CHECK.due("first(3, 9)", d.first(3, 9), 3);
        CHECK.due("first(4, 9)", d.first(4, 9), Check.NONE);
        CHECK.due("first(25, 9)", d.first(25, 9), Check.NONE);
        CHECK.due("first(1, 0)", d.first(1, 0), Check.NONE);
        CHECK.due("first(-1, 0)", d.first(-1, 0), Check.OUTSIDE);
        CHECK.due("first(26, 0)", d.first(26, 0), Check.OUTSIDE);
        CHECK.due("first(0, -1)", d.first(0, -1), Check.OUTSIDE);
        CHECK.due("first(0, 10)", d.first(0, 10), Check.OUTSIDE);
        CHECK.due("the last day that counts", Check.made("w5 2;l0;c4 6;c7 9;c5 7;c2 4;c2 3;c4 5;").first(8, 2), 60);
        d.day(3, 9);
        CHECK.due("first(3, 0) now", d.first(3, 0), 0);
    }

    private static void leadTo() {
        // behind one day of rain 9 a leak shows where it is, the cell below it is wet by 1
        DampLikeness d = Check.made("w3 3;l0;l0;f0,2,0;f1,0,4;f0,0,0;");
        CHECK.due("leadTo: the middle", d.leadTo(0, 0, 1, 9, 0), 4);
        CHECK.due("leadTo: how like", d.leadTo(0, 0, 1, 9, 1), 8);
        CHECK.due("leadTo: the corner", d.leadTo(1, 1, 1, 9, 0), 8);
        CHECK.due("leadTo: how like", d.leadTo(1, 1, 1, 9, 1), 9);
        CHECK.due("leadTo: of like ones the least", d.leadTo(1, 2, 1, 9, 0), 0);
        CHECK.due("leadTo: how like", d.leadTo(1, 2, 1, 9, 1), 8);
        CHECK.due("leadTo: no rain", d.leadTo(1, 1, 20, 0, 0), 0);
        CHECK.due("leadTo: no rain, how like", d.leadTo(1, 1, 20, 0, 1), 7);
        for (int n = 1; n <= 20; n += 6) {
            for (int f = 0; f < 4; f++) {
                leadToByHand(f, n, 2 + 2 * f);
            }
        }
    }

    private static void leadToByHand(int f, int n, int r) {
        int best = -1;
        int most = -1;
        for (int x = 0; x < 9; x++) {
            DampLikeness d = wetWall();
            d.lead(0, x);
            d.day(n, r);
            if (d.likeness(f, 1) > most) {
                most = d.likeness(f, 1);
                best = x;
            }
        }
        CHECK.due("leadTo(0, " + f + ", " + n + ", " + r + ", 0)", wetWall().leadTo(0, f, n, r, 0), best);
        CHECK.due("leadTo(0, " + f + ", " + n + ", " + r + ", 1)", wetWall().leadTo(0, f, n, r, 1), most);
    }

    private static void leadToRefused() {
        CHECK.due("no wall: leadTo", new DampLikeness().leadTo(0, 0, 1, 1, 0), Check.UNKNOWN);
        DampLikeness d = wetWall();
        int[][] unknown = {{-1, 0}, {2, 0}, {0, -1}, {0, 4}};
        for (int[] pair : unknown) {
            CHECK.due("leadTo, unknown", d.leadTo(pair[0], pair[1], 1, 1, 0), Check.UNKNOWN);
            CHECK.due("leadTo, unknown and outside", d.leadTo(pair[0], pair[1], 0, 10, 2), Check.UNKNOWN);
        }
        int[][] outside = {{0, 1, 0}, {21, 1, 0}, {1, -1, 0}, {1, 10, 0}, {1, 1, -1}, {1, 1, 2}};
        for (int[] three : outside) {
            CHECK.due("leadTo, outside", d.leadTo(0, 0, three[0], three[1], three[2]), Check.OUTSIDE);
        }
    }

    private static void often() {
        // one lonely mark at the bottom: a look takes 2 of it
        DampLikeness d = Check.made("w2 2;l3;");
        CHECK.due("often(1, 5, 1, 0)", d.often(1, 5, 1, 0), 1);
        CHECK.due("often(1, 5, 1, 1)", d.often(1, 5, 1, 1), 1);
        CHECK.due("often(1, 4, 1, 0)", d.often(1, 4, 1, 0), 0);
        CHECK.due("often(1, 4, 1, 1)", d.often(1, 4, 1, 1), 0);
        CHECK.due("often(1, 2, 1, 0)", d.often(1, 2, 1, 0), Check.NONE);
        CHECK.due("often(1, 2, 1, 1)", d.often(1, 2, 1, 1), Check.NONE);
        // rain 1: looks while nothing shows cost nothing
        CHECK.due("often(3, 1, 1, 0)", d.often(3, 1, 1, 0), 2);
        CHECK.due("often(3, 1, 1, 1)", d.often(3, 1, 1, 1), 3);
        CHECK.due("often(8, 1, 0, 0)", d.often(8, 1, 0, 0), 8);
        CHECK.due("often(8, 1, 0, 1)", d.often(8, 1, 0, 1), 255);
        CHECK.due("often(2, 0, 0, 0)", d.often(2, 0, 0, 0), 2);
        CHECK.due("often(8, 9, 2, 0)", d.often(8, 9, 2, 0), Check.NONE);
        CHECK.due("often(8, 9, 25, 1)", d.often(8, 9, 25, 1), Check.NONE);
        for (int n = 1; n <= 8; n++) {
            for (int m = 0; m <= 6; m += 2) {
                oftenByHand(n, 9 - n, m);
            }
        }
        // two looks at most, behind the days 1 and 2 or 0 and 3: 6 is less than 9
        DampLikeness alike = Check.made("w3 3;l5;l2;n1;");
        alike.seed(34);
        alike.drift(5);
        CHECK.due("often(4, 5, 3, 0)", alike.often(4, 5, 3, 0), 2);
        CHECK.due("often(4, 5, 3, 1)", alike.often(4, 5, 3, 1), 6);
    }

    private static void oftenByHand(int n, int r, int m) {
        int most = -1;
        int least = -1;
        for (int days = 0; days < 1 << n; days++) {
            DampLikeness d = wetWall();
            for (int k = 0; k < n; k++) {
                d.day(1, r);
                if ((days >> k & 1) != 0) {
                    d.look();
                }
            }
            if (Integer.bitCount(d.told(8)) >= m && Integer.bitCount(days) > most) {
                most = Integer.bitCount(days);
                least = days;
            }
        }
        CHECK.due("often(" + n + ", " + r + ", " + m + ", 0)", wetWall().often(n, r, m, 0), most);
        CHECK.due("often(" + n + ", " + r + ", " + m + ", 1)", wetWall().often(n, r, m, 1), least);
    }

    private static void oftenRefused() {
        int[][] outside = {{0, 1, 1, 0}, {9, 1, 1, 0}, {1, -1, 1, 0}, {1, 10, 1, 0}, {1, 1, -1, 0}, {1, 1, 26, 0},
            {1, 1, 1, -1}, {1, 1, 1, 2}};
        for (int[] four : outside) {
            CHECK.due("often, outside", wetWall().often(four[0], four[1], four[2], four[3]), Check.OUTSIDE);
            CHECK.due("no wall: often, outside",
                    new DampLikeness().often(four[0], four[1], four[2], four[3]), Check.OUTSIDE);
        }
        CHECK.due("no wall: often", new DampLikeness().often(1, 1, 1, 0), Check.NOT);
    }

    private static void wasRain() {
        DampLikeness none = new DampLikeness();
        CHECK.due("no wall: wasRain(0)", none.wasRain(0), Check.NOT);
        CHECK.due("no wall: wasRain(1)", none.wasRain(1), Check.UNKNOWN);
        DampLikeness d = Check.made("w2 2;l0;l3;");
        CHECK.due("wasRain(0)", d.wasRain(0), 7);
        CHECK.due("wasRain(8)", d.wasRain(8), 8);
        CHECK.due("wasRain(9)", d.wasRain(9), 1023 - 15);
        CHECK.due("wasRain(1)", d.wasRain(1), 0);
        CHECK.due("wasRain(15)", d.wasRain(15), 0);
        CHECK.due("wasRain(16)", d.wasRain(16), Check.UNKNOWN);
        CHECK.due("wasRain(-1)", d.wasRain(-1), Check.UNKNOWN);
        CHECK.due("wasRain(MIN)", d.wasRain(Integer.MIN_VALUE), Check.UNKNOWN);
        CHECK.due("25 cells: wasRain(all)", Check.made("w5 5;").wasRain((1 << 25) - 1), 0);
        CHECK.due("25 cells: wasRain(one more)", Check.made("w5 5;").wasRain(1 << 25), Check.UNKNOWN);
        int all = 0;
        DampLikeness wet = wetWall();
        for (int set = 0; set < 512; set++) {
            all |= wet.wasRain(set);
        }
        CHECK.due("each rain shows some set", all, 1023);
    }

    private static void rainToTell() {
        DampLikeness none = new DampLikeness();
        CHECK.due("no wall: rainToTell(0)", none.rainToTell(0), Check.NOT);
        CHECK.due("no wall: rainToTell(2)", none.rainToTell(2), Check.OUTSIDE);
        DampLikeness d = Check.made("w2 2;l0;l3;f3,3;f0,2;f1,2;");
        CHECK.due("rainToTell(-1)", d.rainToTell(-1), Check.OUTSIDE);
        CHECK.due("rainToTell(2)", d.rainToTell(2), Check.OUTSIDE);
        // rain 3 shows the last cell alone (three are left), rain 4 the first one too (two)
        CHECK.due("rainToTell(0)", d.rainToTell(0), 4);
        CHECK.due("rainToTell(1)", d.rainToTell(1), 2);
        // of 9 in the middle 6 run away, 3 are left: the least that shows
        DampLikeness nine = Check.made("w3 3;l4;n2;c4 1;c4 3;c4 5;c4 7;f0,0,0;");
        CHECK.due("nine: rainToTell(0)", nine.rainToTell(0), 9);
        CHECK.due("nine: rainToTell(1)", nine.rainToTell(1), 0);
        CHECK.due("nine: wasRain(16)", nine.wasRain(16), 512);
        DampLikeness nobody = Check.made("w2 2;l0;");
        CHECK.due("nobody: rainToTell(0)", nobody.rainToTell(0), 0);
        CHECK.due("nobody: rainToTell(1)", nobody.rainToTell(1), 0);
        DampLikeness five = Check.made("w2 2;f3,3;f3,3;f3,3;f3,3;f3,3;");
        CHECK.due("five: rainToTell(0)", five.rainToTell(0), 0);
        CHECK.due("five: rainToTell(1)", five.rainToTell(1), 5);
    }

    private static void dryIn() {
        CHECK.due("no wall: dryIn()", new DampLikeness().dryIn(), Check.NOT);
        DampLikeness d = Check.made("w2 2;l3;");
        CHECK.due("dryIn()", d.dryIn(), 0);
        d.day(1, 9);
        CHECK.due("dryIn() by 9", d.dryIn(), 9);
        d.day(4, 0);
        CHECK.due("dryIn() by 5", d.dryIn(), 5);
        DampLikeness two = Check.made("w2 2;l0;");
        two.day(1, 9);
        CHECK.due("dryIn(): it runs too", two.dryIn(), 5);
    }

    private static void either() {
        CHECK.due("no wall: either(0, 0, 0)", new DampLikeness().either(0, 0, 0), Check.UNKNOWN);
        DampLikeness d = Check.made("w2 2;l0;l3;f1,1;f3,2;");
        CHECK.due("either(0, 1, 0)", d.either(0, 1, 0), 14);
        CHECK.due("either(1, 0, 0)", d.either(1, 0, 0), 14);
        CHECK.due("either(0, 1, 1): nothing shows", d.either(0, 1, 1), 2);
        CHECK.due("either(1, 0, 1): nothing shows", d.either(1, 0, 1), 1);
        d.day(1, 9);
        CHECK.due("either(0, 1, 1): two show", d.either(0, 1, 1), 1);
        CHECK.due("either(1, 0, 1): two show", d.either(1, 0, 1), 2);
        CHECK.due("either(1, 1, 0)", d.either(1, 1, 0), 0);
        CHECK.due("either(1, 1, 1)", d.either(1, 1, 1), 0);
        CHECK.due("either(2, 0, 0)", d.either(2, 0, 0), Check.UNKNOWN);
        CHECK.due("either(0, 2, 9)", d.either(0, 2, 9), Check.UNKNOWN);
        CHECK.due("either(-1, 0, 0)", d.either(-1, 0, 0), Check.UNKNOWN);
        CHECK.due("either(0, -1, 0)", d.either(0, -1, 0), Check.UNKNOWN);
        CHECK.due("either(0, 1, 2)", d.either(0, 1, 2), Check.OUTSIDE);
        CHECK.due("either(0, 1, -1)", d.either(0, 1, -1), Check.OUTSIDE);
    }

    private static void rainy() {
        DampLikeness d = new DampLikeness();
        CHECK.due("rainy(0, 0)", d.rainy(0, 0), 1000000000);
        CHECK.due("rainy(1, 0)", d.rainy(1, 0), 0);
        CHECK.due("rainy(1, 37)", d.rainy(1, 37), 370000000);
        CHECK.due("rainy(2, 50)", d.rainy(2, 50), 250000000);
        CHECK.due("rainy(60, 100)", d.rainy(60, 100), 1000000000);
        // cut each day: 1000000000, 10000000, 100000, 1000, 10, 0
        CHECK.due("rainy(4, 1)", d.rainy(4, 1), 10);
        CHECK.due("rainy(5, 1)", d.rainy(5, 1), 0);
        long odds = 1000000000L;
        for (int n = 0; n <= 60; n++) {
            CHECK.due("rainy(" + n + ", 93)", d.rainy(n, 93), odds);
            odds = odds * 93 / 100;
        }
        CHECK.due("rainy(-1, 0)", d.rainy(-1, 0), Check.OUTSIDE);
        CHECK.due("rainy(61, 0)", d.rainy(61, 0), Check.OUTSIDE);
        CHECK.due("rainy(0, -1)", d.rainy(0, -1), Check.OUTSIDE);
        CHECK.due("rainy(0, 101)", d.rainy(0, 101), Check.OUTSIDE);
    }
}
