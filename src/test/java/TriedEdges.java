import java.util.List;
import java.util.function.Consumer;

/** "Terms", section 3: what is tried, the book, draws, what is undone, images. */
final class TriedEdges extends Edges {
    /** Behind two days of rain 3 nine cells show first behind 61 more of rain 2. */
    static final String SLOW = "w3 4;l3;c10 11;c7 11;c6 7;c5 6;c1 5;c2 6;n1;";

    TriedEdges() {
        under("Terms, section 3");
        shownAndFirst();
        likenesses();
        leading();
        looking();
        rains();
        marks();
        dryIn();
        numbers();
        draws();
        undone();
        images();
    }

    /** The least seed by which, behind the first day's rain, the draw of 6 is this. */
    static int seedFor(int turn) {
        for (int seed = 0; seed < 1000; seed++) {
            Lots lots = new Lots(seed);
            lots.draw(10);
            if (lots.draw(6) == turn) {
                return seed;
            }
        }
        throw new IllegalStateException();
    }

    private void shownAndFirst() {
        edge("TRIED from now; nothing changes by it.", "each call that tries something, at its widest", c -> {
            DampLikeness d = lived();
            String ahead = Check.all(d);
            d.shown(60, 9);
            d.first(25, 9);
            d.leadTo(1, 2, 20, 9, 0);
            d.often(8, 9, 4, 0);
            d.wasRain(0);
            d.rainToTell(0);
            d.dryIn();
            d.either(0, 1, 1);
            d.rainy(60, 99);
            c.dueText("all of it", Check.all(d), ahead);
        }, Break.in("int marksBehind(", "flow.rainDays(plan, damp, n, r)", "flow.rainDays(plan, now, n, r)"),
                Break.in("int daysTillMarks(", "flow.rainDay(plan, damp, r)", "flow.rainDay(plan, now, r)"),
                Break.in("int daysTillDry(", "flow.rainDay(plan, damp, 0)", "flow.rainDay(plan, now, 0)"),
                Break.in("void leadBest(", "put(damp.leakAt, l, x)", "put(now.leakAt, l, x)"),
                Break.in("void tryLooks(", "stage.shrink(plan);", "stage.shrink(plan); from.looks++;"));
        edge("SHOWN: what SHOWS behind n DAYS (0 .. 60)", "0 DAYS: what SHOWS now; 60 DAYS", c -> {
            DampLikeness d = lived();
            c.due("shown(0, 9)", d.shown(0, 9), d.told(8));
            int shown = d.shown(60, 4);
            d.day(60, 4);
            c.due("shown(60, 4)", shown, d.told(8));
            c.due("rain 1 on one CELL: shown(2, 1)", made("w2 2;l3;").shown(2, 1), 0);
            c.due("rain 1 on one CELL: shown(3, 1)", made("w2 2;l3;").shown(3, 1), 8);
        }, Break.in("int shown(", "outside(n, 0, MOST_DAYS)", "outside(n, 1, MOST_DAYS)"),
                Break.in("int shown(", "outside(n, 0, MOST_DAYS)", "outside(n, 0, MOST_DAYS - 1)"),
                Break.in("int marksBehind(", "damp, n, r", "damp, n + 1, r"));
        edge("of RAIN r (0 .. 9) each: CELLS", "RAIN 0 and RAIN 9", c -> {
            DampLikeness d = made("w2 2;l2;l3;");
            d.day(1, 3);
            c.due("shown(1, 0)", d.shown(1, 0), 0);
            c.due("shown(1, 9)", d.shown(1, 9), 12);
        }, Break.in("int shown(", "outside(r, 0, MOST_RAIN)", "outside(r, 1, MOST_RAIN)"),
                Break.in("int shown(", "outside(r, 0, MOST_RAIN)", "outside(r, 0, MOST_RAIN - 1)"));
        edge("FIRST: behind how many such DAYS (0 .. 60)", "0: it SHOWS now; 60; 61 is too late", c -> {
            c.due("now", lived().first(1, 9), 0);
            DampLikeness d = made(SLOW);
            d.day(2, 3);
            c.due("behind 61", d.first(9, 2), NONE);
            d.day(1, 2);
            c.due("behind 60", d.first(9, 2), 60);
            d.day(1, 2);
            c.due("behind 59", d.first(9, 2), 59);
        }, Break.in("int daysTillMarks(", "k <= MOST_DAYS", "k < MOST_DAYS"),
                Break.in("int daysTillMarks(", "k <= MOST_DAYS", "k <= MOST_DAYS + 1"),
                Break.in("int daysTillMarks(", "int k = 0", "int k = 1"));
        edge("(0 .. 60) m CELLS or more SHOW", "m of them, more at once, none", c -> {
            DampLikeness d = made("w2 2;l2;l3;");
            c.due("first(0, 9)", d.first(0, 9), 0);
            c.due("first(1, 9): two at once", d.first(1, 9), 1);
            c.due("first(2, 9)", d.first(2, 9), 1);
        }, Break.in("int daysTillMarks(", ">= m", "== m"), Break.in("int daysTillMarks(", ">= m", "> m"));
        edge("SHOW; NONE.", "more than ever SHOW, more than there are", c -> {
            DampLikeness d = made("w2 2;l2;l3;");
            c.due("first(3, 9)", d.first(3, 9), NONE);
            c.due("first(25, 9)", d.first(25, 9), NONE);
        }, Break.in("int daysTillMarks(", "return NONE;", "return MOST_DAYS;"));
    }

    private void likenesses() {
        edge("LIKE: how many CELLS are as in a LIKENESS", "all of them; none", c -> {
            DampLikeness d = Check.painted(3, 4, "f3,1,0;f12,14,15;", Check.set(0, 1, 4));
            c.due("all", d.likeness(0, 1), 12);
            c.due("none", d.likeness(1, 1), 0);
        }, Break.in("int like(", "plan.cells() -", "plan.cells() - 1 -"),
                Break.in("int like(", "marks ^ face", "marks & face"));
        edge("(SHOW where it has one, not where it has none)", "nothing SHOWS; a LIKENESS without a CELL", c -> {
            DampLikeness dry = made("w2 2;f0,0;f3,0;");
            c.due("nothing SHOWS, nothing is due", dry.likeness(0, 1), 4);
            c.due("nothing SHOWS, two are due", dry.likeness(1, 1), 2);
            c.due("12 SHOW, none is due", Check.painted(3, 4, "f0,0,0;", 4095).likeness(0, 1), 0);
        }, Break.in("int like(", "plan.cells() - Integer.bitCount(marks ^ face)", "Integer.bitCount(marks & face)"));
        edge("WHOM: the LIKENESS it is most LIKE now; of like ones the least", "two and three that are LIKE as much", c -> {
            c.due("the second and third", made("w2 2;f3,3;f1,0;f2,0;").told(13), 1);
            c.due("all three", made("w2 2;f1,0;f2,0;f0,1;").told(13), 0);
            c.due("the first, a second is less LIKE", made("w2 2;f1,0;f3,3;").told(13), 0);
            c.due("one that is nothing LIKE", Check.painted(3, 4, "f0,0,0;", 4095).told(13), 0);
        }, Break.in("int whom(", "like > most", "like >= most"), Break.in("int whom(", "like > most", "like != most"),
                Break.in("int whom(", "int most = NONE", "int most = 0"));
        edge("NONE: there are none.", "no LIKENESS, no WALL", c -> {
            c.due("no LIKENESS", made("w2 2;").told(13), NONE);
            c.due("no WALL", noWall().told(13), NONE);
        }, Break.in("int whom(", "int whom = NONE", "int whom = 0"));
        edge("MAY BE: LIKENESSES (a SET of them) that have all CELLS that SHOW.",
                "nothing SHOWS; just its CELLS; one more", c -> {
            c.due("nothing SHOWS", made("w2 2;f0,0;f3,0;f0,1;f1,1;f3,3;").told(14), 31);
            c.due("just its CELLS", Check.painted(3, 4, "f7,0,0;f3,0,0;f15,0,0;", 7).told(14), 5);
            c.due("no LIKENESS", Check.painted(3, 4, "", 7).told(14), 0);
            c.due("none that it may be", Check.painted(3, 4, "f7,0,0;", 15).told(14), 0);
        }, Break.in("int mayBe(", "(marks & ~pick(plan.faces, f)) == 0", "marks == pick(plan.faces, f)"),
                Break.in("int mayBe(", "(marks & ~pick(plan.faces, f)) == 0", "marks != pick(plan.faces, f)"),
                Break.in("int mayBe(", "(marks & ~pick(plan.faces, f)) == 0", "(marks & pick(plan.faces, f)) != 0"),
                Break.in("int mayBe(", "f < plan.faceCount", "f < plan.faceCount - 1"));
        edge("FEWEST BRUSHES so that it MAY BE a LIKENESS: how many CELLS SHOW that it has not.",
                "none; all that SHOW", c -> {
            DampLikeness d = Check.painted(3, 4, "f3,1,0;f15,15,15;f0,0,0;f12,0,0;f1,0,0;", Check.set(0, 1, 4));
            c.due("just its CELLS", d.likeness(0, 2), 0);
            c.due("it has all", d.likeness(1, 2), 0);
            c.due("it has none", d.likeness(2, 2), 3);
            c.due("it has others", d.likeness(3, 2), 3);
            c.due("it has one of them", d.likeness(4, 2), 2);
        }, Break.in("int likeness(", "now.marks() & ~face", "now.marks() ^ face"),
                Break.in("int likeness(", "now.marks() & ~face", "~now.marks() & face"));
    }

    private void leading() {
        edge("behind n DAYS (1 .. 20) of RAIN r", "1 DAY and 20 of them", c -> {
            // rain 1 on the lowest row: 3 behind three days; on the upper one less
            DampLikeness d = made("w2 2;l0;f0,2;");
            c.due("1 DAY: the CELL", d.leadTo(0, 0, 1, 3, 0), 3);
            c.due("1 DAY: how LIKE", d.leadTo(0, 0, 1, 3, 1), 4);
            c.due("1 DAY is not 2: how LIKE", d.leadTo(0, 0, 1, 2, 1), 3);
            c.due("20 DAYS: the CELL", d.leadTo(0, 0, 20, 1, 0), 1);
            c.due("20 DAYS: how LIKE", d.leadTo(0, 0, 20, 1, 1), 4);
            DampLikeness slow = made("w5 2;l0;f0,0,0,0,1;");
            byDays(c, slow, 20, 1);
            byDays(c, slow, 19, 1);
        }, Break.of("MOST_LEAD_DAYS = 20", "MOST_LEAD_DAYS = 19"),
                Break.in("int leadTo(", "outside(n, 1, MOST_LEAD_DAYS)", "outside(n, 2, MOST_LEAD_DAYS)"),
                Break.in("void leadBest(", "damp, n, r", "damp, n + 1, r"));
        edge("of like ones the least: which; how LIKE then.", "CELLS that are as good: the least", c -> {
            DampLikeness d = made("w3 3;l8;f0,0,0;");
            c.due("all as good: the CELL", d.leadTo(0, 0, 1, 9, 0), 0);
            c.due("all as good: how LIKE", d.leadTo(0, 0, 1, 9, 1), 8);
            c.due("no rain: the CELL", d.leadTo(0, 0, 20, 0, 0), 0);
            c.due("no rain: how LIKE", d.leadTo(0, 0, 20, 0, 1), 9);
            DampLikeness two = made("w3 3;l0;f0,2,1;");
            c.due("two as good: the CELL", two.leadTo(0, 0, 1, 9, 0), 4);
            c.due("the last CELL", made("w3 3;l0;f0,0,4;").leadTo(0, 0, 1, 9, 0), 8);
        }, Break.in("void leadBest(", "like > bestCount", "like >= bestCount"),
                Break.in("void leadBest(", "x < plan.cells()", "x < plan.cells() - 1"));
    }

    /** What leadTo should answer, by leading to each cell. */
    private static void byDays(Check c, DampLikeness d, int n, int r) {
        int most = NONE;
        int best = NONE;
        int was = d.leak(0);
        for (int x = 0; x < d.told(0) * d.told(1); x++) {
            d.lead(0, x);
            d.day(n, r);
            if (d.likeness(0, 1) > most) {
                most = d.likeness(0, 1);
                best = x;
            }
            d.undo();
            d.undo();
        }
        c.due("the LEAK is where it was", d.leak(0), was);
        c.due(n + " DAYS: the CELL", d.leadTo(0, 0, n, r, 0), best);
        c.due(n + " DAYS: how LIKE", d.leadTo(0, 0, n, r, 1), most);
    }

    private void looking() {
        edge("OFTEN: n DAYS (1 .. 8) of RAIN r", "1 DAY and 8 of them", c -> {
            DampLikeness d = made("w2 2;l3;");
            c.due("1 DAY", d.often(1, 9, 1, 0), 1);
            c.due("8 DAYS", d.often(8, 9, 1, 0), 8);
            c.due("8 DAYS: which", d.often(8, 9, 1, 1), 255);
            c.due("8 DAYS of RAIN 1: 1, 2, 3 less 2, 2, 3 less 2, 2, 3, 4", d.often(8, 1, 1, 1), 63);
        }, Break.of("MOST_OFTEN_DAYS = 8", "MOST_OFTEN_DAYS = 7"),
                Break.in("int often(", "outside(n, 1, MOST_OFTEN_DAYS)", "outside(n, 2, MOST_OFTEN_DAYS)"));
        edge("behind each of which one may LOOK: the most LOOKS", "none may be the most", c -> {
            DampLikeness d = made("w2 2;l3;");
            c.due("RAIN 4 cannot bear one", d.often(1, 4, 1, 0), 0);
            c.due("RAIN 4: which", d.often(1, 4, 1, 1), 0);
            c.due("RAIN 5 can", d.often(1, 5, 1, 0), 1);
        }, Break.in("void weigh(", "looks > bestCount", "looks > Math.max(0, bestCount)"),
                Break.in("void weigh(", "looks > bestCount ||", "bestCount == NONE ||"));
        edge("by which m CELLS or more SHOW behind the last (and its LOOK)", "m of them, none, all", c -> {
            DampLikeness d = made("w2 2;l2;l3;");
            c.due("m is 2", d.often(1, 5, 2, 0), 1);
            c.due("m is 1: more than that SHOW", d.often(1, 5, 1, 0), 1);
            c.due("m is 0", d.often(8, 0, 0, 0), 8);
            c.due("the last LOOK counts", d.often(1, 4, 2, 0), 0);
        }, Break.in("void weigh(", ">= marksWanted", "== marksWanted"),
                Break.in("void weigh(", ">= marksWanted", "> marksWanted"),
                Break.in("void tryLooks(", "stage.shrink(plan);", "if (k + 1 < trial.dayCount) { stage.shrink(plan); }"));
        edge("(a SET: bit k: behind DAY k; of like ones the least)", "DAY 0 is the first; of like SETS the least", c -> {
            DampLikeness d = made("w2 2;l3;");
            c.due("behind the DAYS 0 and 1, not 2", d.often(3, 1, 1, 1), 3);
            DampLikeness alike = made("w3 3;l5;l2;n1;");
            alike.seed(34);
            alike.drift(5);
            c.due("two LOOKS at most", alike.often(4, 5, 3, 0), 2);
            c.due("1 and 2, or 0 and 3", alike.often(4, 5, 3, 1), 6);
        }, Break.in("void weigh(", "looked < best", "looked > best"),
                Break.in("void tryLooks(", "looked | (1 << k)", "looked | (2 << k)"),
                Break.in("void tryLooks(", "looked | (1 << k)", "looked | (1 << (trial.dayCount - 1 - k))"));
        edge("of like ones the least); NONE.", "so many never SHOW, without a LOOK too", c -> {
            DampLikeness d = made("w2 2;l3;");
            c.due("how many", d.often(8, 9, 2, 0), NONE);
            c.due("which", d.often(8, 9, 2, 1), NONE);
            c.due("more than there are CELLS", d.often(1, 9, 25, 0), NONE);
        }, Break.in("void lookMost(", "best = NONE;", "best = 0;"),
                Break.in("void lookMost(", "bestCount = NONE;", "bestCount = 0;"));
    }

    private void rains() {
        edge("WAS RAIN: numbers n (0 .. 9, a SET)", "RAIN 0 is bit 0, RAIN 9 is bit 9", c -> {
            DampLikeness d = made("w2 2;l3;");
            c.due("nothing SHOWS by 0, 1, 2", d.wasRain(0), 7);
            c.due("one SHOWS by 3 to 9", d.wasRain(8), 1023 - 7);
            c.due("by 9 alone", made("w3 3;l4;n2;c4 1;c4 3;c4 5;c4 7;").wasRain(16), 512);
        }, Break.in("int rainsThatShow(", "r <= MOST_RAIN", "r < MOST_RAIN"),
                Break.in("int rainsThatShow(", "int r = 0", "int r = 1"));
        edge("by a DAY of which just a told SET SHOWS.", "less or more than the SET is not it; none fits: 0", c -> {
            DampLikeness d = made("w2 2;l2;l3;l3;");
            c.due("the second alone, by 2", d.wasRain(8), 4);
            c.due("both, by 3 and more", d.wasRain(12), 1023 - 7);
            c.due("the first alone: never", d.wasRain(4), 0);
            c.due("all: never", d.wasRain(15), 0);
        }, Break.in("int rainsThatShow(", "marksBehind(plan, now, 1, r) == set",
                "(marksBehind(plan, now, 1, r) & set) == set"),
                Break.in("int rainsThatShow(", "marksBehind(plan, now, 1, r) == set",
                        "(marksBehind(plan, now, 1, r) & ~set) == 0"));
        edge("RAIN TO TELL: the RAIN (0 .. 9)", "RAIN 0 tells most; RAIN 9 does", c -> {
            DampLikeness nine = made("w3 3;l4;n2;c4 1;c4 3;c4 5;c4 7;f0,0,0;");
            c.due("RAIN 9", nine.rainToTell(0), 9);
            c.due("none is left", nine.rainToTell(1), 0);
            DampLikeness zero = made("w2 2;f3,3;");
            c.due("RAIN 0", zero.rainToTell(0), 0);
        }, Break.in("void rainThatLeavesFewest(", "r <= MOST_RAIN", "r < MOST_RAIN"),
                Break.in("void rainThatLeavesFewest(", "int r = 0", "int r = 1"));
        edge("are left that it MAY BE; of like ones the least; how many are left.", "none, all of five; no LIKENESS", c -> {
            DampLikeness d = made("w2 2;l3;f1,0;f0,2;");
            c.due("3 to 9 leave one", d.rainToTell(0), 3);
            c.due("one is left", d.rainToTell(1), 1);
            DampLikeness five = made("w2 2;f3,3;f3,3;f3,3;f3,3;f3,3;");
            c.due("five: RAIN", five.rainToTell(0), 0);
            c.due("five are left", five.rainToTell(1), 5);
            DampLikeness nobody = made("w2 2;l3;");
            c.due("no LIKENESS: RAIN", nobody.rainToTell(0), 0);
            c.due("no LIKENESS is left", nobody.rainToTell(1), 0);
            // CELL 3 is WET by 2: RAIN 3 SHOWS 4 alone, RAIN 4 SHOWS 3 alone, more SHOW both
            DampLikeness more = made("w2 3;l3;c3 4;f0,1;f0,1;n2;");
            more.fill(0, true);
            more.day(1, 2);
            more.fill(0, false);
            more.lead(0, 4);
            c.due("RAIN 4 SHOWS 3 alone", more.shown(1, 4), 8);
            c.due("3 leaves none, 4 leaves two", more.rainToTell(0), 3);
            c.due("none is left", more.rainToTell(1), 0);
        }, Break.in("void rainThatLeavesFewest(", "left < bestCount", "left <= bestCount"),
                Break.in("void rainThatLeavesFewest(", "left < bestCount", "left != bestCount"),
                Break.in("void rainThatLeavesFewest(", "MOST_FACES + 1", "MOST_FACES"));
    }

    private void marks() {
        edge("GROUPS: MARKS that hang together (side by side, above): how many",
                "none; one of all; across; a ROW's end", c -> {
            c.due("none", made("w3 4;").told(15), 0);
            c.due("all", Check.painted(3, 4, "", 4095).told(15), 1);
            c.due("across", Check.painted(3, 4, "", Check.set(0, 5, 10)).told(15), 3);
            c.due("a ROW's end and the next one's start", Check.painted(3, 4, "", Check.set(3, 4)).told(15), 2);
            c.due("these, and one above the start", Check.painted(3, 4, "", Check.set(0, 3, 4)).told(15), 2);
            c.due("side by side", Check.painted(3, 4, "", Check.set(10, 11)).told(15), 1);
            c.due("above", Check.painted(3, 4, "", Check.set(7, 11)).told(15), 1);
            int winding = Check.set(0, 4, 8, 9, 10, 6, 2, 3);
            c.due("a winding one", Check.painted(3, 4, "", winding).told(15), 1);
        }, Break.in("int besideSet(", "& plan.allCells & ~plan.firstColumn", "& plan.allCells"),
                Break.in("int besideSet(", "(set & ~plan.firstColumn) >> 1", "set >> 1"),
                Break.in("int groupOf(", "k < MOST_CELLS", "k < 6"),
                Break.in("int groupOf(", "besideSet(plan, group, side) & marks",
                        "(besideSet(plan, group, side) | group << (plan.columns + 1)) & marks"));
        edge("CELLS of the greatest one (a SET; of like ones that with the least CELL)", "none; two as great", c -> {
            c.due("none", made("w3 4;").told(16), 0);
            c.due("two as great", Check.painted(3, 4, "", Check.set(1, 5, 3, 7)).told(16), Check.set(1, 5));
            c.due("one is greater", Check.painted(3, 4, "", Check.set(0, 2, 3)).told(16), Check.set(2, 3));
            c.due("all", Check.painted(5, 5, "", (1 << 25) - 1).told(16), (1 << 25) - 1);
            c.due("the first CELL alone", Check.painted(3, 4, "", Check.set(0, 2)).told(16), 1);
            c.due("the last CELL alone", Check.painted(3, 4, "", Check.set(11)).told(16), 1 << 11);
        }, Break.in("int greatestGroup(", "Integer.bitCount(group) > Integer", "Integer.bitCount(group) >= Integer"),
                Break.in("int greatestGroup(", "int greatest = 0", "int greatest = NONE"),
                Break.in("int greatestGroup(", "int x = 0", "int x = 1"),
                Break.in("int greatestGroup(", "x < plan.cells()", "x < plan.cells() - 1"));
        edge("BORDER: how many sides of CELLS that SHOW are not towards one that SHOWS.",
                "none; the WALL's end is a side", c -> {
            c.due("nothing SHOWS", made("w3 4;").told(17), 0);
            c.due("one in a corner", Check.painted(3, 4, "", Check.set(11)).told(17), 4);
            c.due("all 12", Check.painted(3, 4, "", 4095).told(17), 14);
            c.due("a hole in the midst", Check.painted(3, 3, "", 511 - 16).told(17), 16);
            c.due("a ROW's end and the next one's start", Check.painted(3, 4, "", Check.set(3, 4)).told(17), 8);
        }, Break.in("int border(", "marks & ~besideSet(plan, marks, side)", "besideSet(plan, marks, side) & ~marks"),
                Break.in("int besideSet(", "(set & ~plan.firstColumn) >> 1", "set >> 1"));
        edge("FULLEST: the ROW with most CELLS that SHOW; of like ones the least", "two as full; the last one", c -> {
            c.due("ROWS 1 and 2", Check.painted(3, 4, "", Check.set(4, 7, 8, 9)).told(18), 1);
            c.due("the last", Check.painted(3, 4, "", Check.set(3, 8, 9)).told(18), 2);
            c.due("all", Check.painted(5, 5, "", (1 << 25) - 1).told(18), 0);
            c.due("one CELL", Check.painted(3, 4, "", Check.set(9)).told(18), 2);
            c.due("the next ROW's start is not of it", Check.painted(3, 4, "", Check.set(3, 4, 5)).told(18), 1);
        }, Break.in("int fullest(", "> most", ">= most"), Break.in("int fullest(", "int most = 0", "int most = 1"),
                Break.in("int fullest(", "(1 << plan.columns) - 1", "(2 << plan.columns) - 1"),
                Break.in("int fullest(", "row < plan.rows", "row < plan.rows - 1"));
        edge("of like ones the least; NONE: nothing SHOWS.", "a dry WALL, one that is WET by 2, no WALL", c -> {
            c.due("dry", made("w3 4;").told(18), NONE);
            DampLikeness d = made("w2 2;l3;");
            d.day(1, 2);
            c.due("WET by 2", d.told(18), NONE);
            c.due("no WALL", noWall().told(18), NONE);
        }, Break.in("int fullest(", "int fullest = NONE", "int fullest = 0"),
                Break.in("int fullest(", "int most = 0", "int most = NONE"));
        edge("ALL WET together.", "0, 1, and 9 in each CELL that can keep it", c -> {
            DampLikeness d = made("w2 2;l3;l2;l1;l0;");
            c.due("dry", d.told(12), 0);
            d.lead(3, 3);
            d.lead(2, 3);
            d.lead(1, 3);
            d.day(1, 9);
            c.due("9", d.told(12), 9);
            d.brush(3);
            d.lead(0, 0);
            d.lead(1, 1);
            d.lead(2, 2);
            d.day(1, 1);
            c.due("1 each", d.told(12), 4);
            d.day(20, 9);
            c.due("9 below, 8 above", d.told(12), 34);
            c.due("no WALL", noWall().told(12), 0);
        }, Break.in("int allWet(", "sum += wet[x]", "sum += wet[x] >= MARK ? wet[x] : 0"),
                Break.in("int allWet(", "int x = 0", "int x = 1"));
    }

    private void dryIn() {
        edge("DRY IN: behind how many DAYS of RAIN 0 (0 .. 60) all is WET by 0", "0: it is dry; 1; 9", c -> {
            DampLikeness d = made("w2 2;l3;");
            c.due("dry", d.dryIn(), 0);
            d.day(1, 1);
            c.due("WET by 1", d.dryIn(), 1);
            d.day(1, 9);
            c.due("WET by 9", d.dryIn(), 9);
        }, Break.in("int daysTillDry(", "damp.allWet() == 0", "damp.marks() == 0"),
                Break.in("int daysTillDry(", "int k = 0", "int k = 1"));
        // each DAY at least a ninth of all dries away, rounded up: 225 are gone behind 33 DAYS, so NONE never comes
        edge("all is WET by 0; NONE.", "the wettest WALLS: 60 DAYS are always enough", c -> {
            for (int wind = 0; wind <= 2; wind++) {
                DampLikeness d = Check.painted(5, 5, "n" + wind + ";", (1 << 25) - 1);
                int days = d.dryIn();
                c.due("from " + d.told(12) + " it is dry within 33", days >= 9 && days <= 33 ? 1 : 0, 1);
                d.day(days - 1, 0);
                c.due("a DAY ahead of it it is not", d.told(12) > 0 ? 1 : 0, 1);
                d.day(1, 0);
                c.due("then it is", d.told(12), 0);
            }
        }, Break.in("int daysTillDry(", "k <= MOST_DAYS", "k <= 9"),
                Break.in("int daysTillDry(", "damp.allWet() == 0", "damp.allWet() < 9"));
    }

    private void numbers() {
        edge("EITHER: of two LIKENESSES: CELLS (a SET) by which they are unlike", "by none; by all", c -> {
            DampLikeness d = made("w2 2;f1,2;f2,1;f1,2;");
            c.due("one with itself", d.either(0, 0, 0), 0);
            c.due("two that are the same", d.either(0, 2, 0), 0);
            c.due("unlike by all", d.either(0, 1, 0), 15);
        }, Break.in("int either(", "face ^ pick", "face | pick"), Break.in("int either(", "face ^ pick", "face & ~pick"));
        edge("of these how many are as in the first now.", "none, all; the other way round", c -> {
            DampLikeness d = Check.painted(3, 4, "f15,0,0;f0,0,0;f3,0,0;", 15);
            c.due("all as in the first", d.either(0, 1, 1), 4);
            c.due("none as in the first", d.either(1, 0, 1), 0);
            c.due("one with itself", d.either(0, 0, 1), 0);
            c.due("two of them", d.either(0, 2, 1), 2);
            c.due("where it has none", made("w2 2;f1,0;f3,3;").either(0, 1, 1), 3);
        }, Break.in("int either(", "~(now.marks() ^ face)", "(now.marks() ^ face)"),
                Break.in("int either(", "~(now.marks() ^ face)", "now.marks()"));
        edge("RAINY: odds of n DAYS of rain (0 .. 60), each by q of a hundred (0 .. 100)",
                "none and 60 DAYS, 0 and 100", c -> {
            DampLikeness d = noWall();
            c.dueEach("certain", 1000000000, d.rainy(0, 0), d.rainy(0, 100), d.rainy(1, 100), d.rainy(60, 100));
            c.dueEach("never", 0, d.rainy(1, 0), d.rainy(60, 0), d.rainy(60, 1));
            c.due("rainy(1, 1)", d.rainy(1, 1), 10000000);
            c.due("rainy(60, 99)", d.rainy(60, 99), 547156620);
        }, Break.in("int rainy(", "k < n", "k <= n"), Break.in("int rainy(", "k < n", "k < n - 1"),
                Break.in("int rainy(", "outside(q, 0, 100)", "outside(q, 1, 100)"),
                Break.in("int rainy(", "outside(q, 0, 100)", "outside(q, 0, 99)"),
                Break.in("int rainy(", "outside(n, 0, MOST_DAYS)", "outside(n, 1, MOST_DAYS)"));
        edge("a BILLION times q / 100 each (cut)", "cut behind each DAY, not at last", c -> {
            c.due("10 DAYS by 93: 483982307 if it were cut at last", noWall().rainy(10, 93), 483982306);
            c.due("11 DAYS by 33: 5054 if it were cut at last", noWall().rainy(11, 33), 5053);
        }, Break.in("int rainy(", "odds * q / 100", "(odds * q + 50) / 100"),
                Break.in("int rainy(", "return (int) odds;",
                        "return (int) (odds + (odds % 1000 == 306 || odds == 5053 ? 1 : 0));"));
        edge("THE BOOK (15 at most) tells how WET CELLS are", "the 15th is judged, a 16th is not taken", c -> {
            DampLikeness d = made("w2 2;");
            for (int k = 0; k < 14; k++) {
                d.write(k % 4, 0);
            }
            c.due("the 15th", d.write(3, 9), 15);
            c.due("the 16th", d.write(3, 9), FULL);
            c.due("judge()", d.judge(), 14);
        }, Break.of("MOST_ENTRIES = 15", "MOST_ENTRIES = 14"), Break.of("MOST_ENTRIES = 15", "MOST_ENTRIES = 16"),
                Break.in("int firstWrong(", "k < count", "k < count - 1"));
        edge("WRONG: the first that is otherwise now; NONE.",
                "of two the first; one that was right; none; an empty one", c -> {
            DampLikeness d = made("w2 2;l3;");
            c.due("empty", d.judge(), NONE);
            d.write(3, 0);
            d.write(3, 9);
            d.write(3, 9);
            c.due("the second and third", d.judge(), 1);
            d.day(1, 9);
            c.due("the first now", d.judge(), 0);
            d.tear();
            d.write(3, 9);
            d.write(0, 0);
            c.due("all are right", d.judge(), NONE);
        }, Break.in("int firstWrong(", "return NONE;", "return count;"),
                Break.in("int firstWrong(", "int k = 0", "int k = 1"),
                Break.in("int firstWrong(", "return k;", "return pick(cells, k);"));
    }

    private void draws() {
        edge("THE SEED (0 at first", "a new object's, and two DRAWS from it", c -> {
            c.due("seed(0)", noWall().seed(0), 0);
            DampLikeness d = made("w2 2;");
            d.drift(1);
            c.due("behind two DRAWS", d.seed(0), 1406932606);
        }, Break.in("class Draws", "int state;", "int state = 1;"));
        edge("times 1103515245 and 12345, left over by 2 to the 31", "from the greatest SEED", c -> {
            DampLikeness d = made("w2 2;");
            d.seed(2147483647);
            d.drift(1);
            c.due("behind two DRAWS", d.seed(0), 288979989);
            d.drift(1);
            c.due("behind two DRAWS from 0", d.seed(0), 1406932606);
        }, Break.in("int draw(", "& 0x7fffffff", "& 0x3fffffff"), Break.in("int draw(", "& 0x7fffffff", "& 0x7ffffffe"),
                Break.in("int draw(", "12345)", "12346)"));
        edge("the DRAW of n is it / 65536, left over by n", "0 and 9 of 10", c -> {
            // from 0 the first is 12345 / 65536 = 0; from 2147483647 it is 1043980748 / 65536 = 15929, 9 of 10
            c.afterDrift("w2 2;l3;", 0, 1, 0, 0, 0, 0);
            c.afterDrift("w2 2;l3;", 2147483647, 1, 0, 0, 0, 9);
            // from 1 it is 1103527590 / 65536 = 16838, 8 of 10
            c.afterDrift("w2 2;l3;", 1, 1, 0, 0, 0, 8);
        }, Break.in("int draw(", "65536", "32768"), Break.in("int draw(", "% n", "% (n - 1)"));
        edge("each of RAIN by a DRAW of 10", "each RAIN from 0 to 9 comes", c -> {
            int seen = 0;
            for (int seed = 0; seed < 4000000; seed += 40000) {
                int rain = new Lots(seed).draw(10);
                DampLikeness d = made("w2 2;l3;");
                d.seed(seed);
                d.drift(1);
                seen |= 1 << rain;
                int wet = rain >= 3 && d.told(10) > 0 ? rain - 2 : rain;
                c.due("RAIN " + rain, d.cell(3), wet);
            }
            c.due("all were seen", seen, 1023);
        }, Break.in("void driftOneDay(", "draws.draw(MOST_RAIN + 1)", "draws.draw(MOST_RAIN)"),
                Break.in("void driftOneDay(", "draws.draw(MOST_RAIN + 1)", "draws.draw(MOST_RAIN + 2)"));
        edge("behind it a DRAW of 6: on 0 it is LOOKED at", "behind the DAY's rain", c -> {
            DampLikeness d = drifted("w2 2;l3;n1;", 0);
            c.due("LOOKS", d.told(10), 1);
            c.due("the LEAK", d.leak(0), 3);
            c.due("WIND", d.told(7), 1);
            c.due("two DRAWS", d.seed(0), behind(0, 2));
            c.due("none by 5", drifted("w2 2;l3;n1;", 5).told(10), 0);
        }, Break.in("void driftOneDay(", "turn == 0", "turn == 5"),
                Break.in("void driftOneDay(", "draws.draw(6)", "draws.draw(5)"));
        edge("on 1 WIND is a DRAW of 3", "each WIND comes; three DRAWS", c -> {
            int seen = 0;
            for (int seed = 0; seed < 3000; seed++) {
                Lots lots = new Lots(seed);
                lots.draw(10);
                if (lots.draw(6) == 1) {
                    DampLikeness d = made("w2 2;n2;");
                    d.seed(seed);
                    d.drift(1);
                    int wind = lots.draw(3);
                    seen |= 1 << wind;
                    c.due("WIND", d.told(7), wind);
                    c.due("three DRAWS", d.seed(0), lots.seed);
                }
            }
            c.due("all were seen", seen, 7);
        }, Break.in("void driftOneDay(", "draws.draw(MOST_WIND + 1)", "draws.draw(MOST_WIND)"),
                Break.in("void driftOneDay(", "now.wind = draws.draw(MOST_WIND + 1)",
                        "now.wind = 1 + draws.draw(MOST_WIND)"));
        edge("on 2, if there are LEAKS, a DRAW of LEAKS is LED to a DRAW of CELLS.",
                "no LEAK: no DRAW; one LEAK, four", c -> {
            DampLikeness none = drifted("w2 2;n1;", 2);
            c.due("no LEAK: two DRAWS", none.seed(0), behind(2, 2));
            c.due("no LEAK: WIND", none.told(7), 1);
            int[] seen = new int[2];
            for (int seed = 0; seed < 3000; seed++) {
                led(c, seed, seen);
            }
            c.due("each LEAK was LED", seen[0], 15);
            c.due("to each CELL", seen[1], 63);
        }, Break.in("void driftOneDay(", "&& plan.leakCount > 0", ""),
                Break.in("void driftOneDay(", "plan.leakCount > 0", "plan.leakCount > 1"),
                Break.in("void driftOneDay(", "draws.draw(plan.cells())", "draws.draw(plan.cells() - 1)"),
                Break.in("void driftOneDay(", "draws.draw(plan.leakCount)", "draws.draw(4) % plan.leakCount"),
                Break.in("void driftOneDay(", "draws.draw(plan.leakCount)", "Math.min(2, draws.draw(plan.leakCount))"));
    }

    private static void led(Check c, int seed, int[] seen) {
        Lots lots = new Lots(seed);
        lots.draw(10);
        if (lots.draw(6) != 2) {
            return;
        }
        int leaks = seed % 3 == 0 ? 1 : seed % 3 == 1 ? 3 : 4;
        DampLikeness d = made("w2 3;" + "l0;l1;l2;l3;".substring(0, 3 * leaks));
        d.seed(seed);
        d.drift(1);
        int l = lots.draw(leaks);
        int x = lots.draw(6);
        seen[0] |= 1 << l;
        seen[1] |= 1 << x;
        for (int k = 0; k < leaks; k++) {
            c.due("leak(" + k + ")", d.leak(k), k == l ? x : k);
        }
        c.due("four DRAWS", d.seed(0), lots.seed);
    }

    private static DampLikeness drifted(String text, int turn) {
        DampLikeness d = made(text);
        d.seed(seedFor(turn));
        d.drift(1);
        return d;
    }

    private static long behind(int turn, int draws) {
        Lots lots = new Lots(seedFor(turn));
        for (int k = 0; k < draws; k++) {
            lots.draw(1);
        }
        return lots.seed;
    }

    private void undone() {
        List<Consumer<DampLikeness>> done = List.of(d -> d.day(1, 9), DampLikeness::look, d -> d.brush(3), d -> d.lead(0, 8),
                d -> d.wind(0), d -> d.fill(1, true), d -> d.drift(60));
        edge("UNDONE: the latest of day(), look(), brush(), lead(), wind(), fill(), drift()",
                "each of the seven, and no other call", c -> {
            for (Consumer<DampLikeness> one : done) {
                DampLikeness d = lived();
                d.seed(0);
                String ahead = Check.all(d);
                one.accept(d);
                c.due("can be undone", d.told(20), 3);
                d.undo();
                d.seed(0);
                c.dueText("undone", Check.all(d), ahead);
            }
            DampLikeness d = lived();
            d.write(0, 0);
            d.seed(1);
            d.tear();
            d.shown(1, 1);
            d.feed(119);
            d.wall();
            d.undo();
            c.due("no other call is counted", d.told(20), 1);
        }, Break.in("int day(", "past.push(now);", ""), Break.in("int look(", "past.push(now);", ""),
                Break.in("int brush(", "past.push(now);", ""),
                Break.in("int lead(int l", "past.push(now);", ""), Break.in("int wind(", "past.push(now);", ""),
                Break.in("int fill(", "past.push(now);", ""),
                Break.in("int drift(", "past.push(now);", ""), Break.atStart("int write(", "past.push(now); "),
                Break.atStart("int tear(", "past.push(now); "));
        edge("that was not refused", "refused ones cannot be undone", c -> {
            DampLikeness d = lived();
            c.dueEach("refused", OUTSIDE, d.day(0, 0), d.wind(3), d.drift(0));
            c.dueEach("refused", UNKNOWN, d.brush(9), d.lead(0, 9), d.fill(3, true));
            c.due("can be undone", d.told(20), 2);
        }, Break.atStart("int day(", "past.push(now); "), Break.atStart("int brush(", "past.push(now); "),
                Break.atStart("int lead(int l", "past.push(now); "),
                Break.atStart("int wind(", "past.push(now); "), Break.atStart("int fill(", "past.push(now); "),
                Break.atStart("int drift(", "past.push(now); "));
        edge("(16 at most are kept, the oldest are lost)", "15, 16, 17 of them; the first of 17 stays done", c -> {
            DampLikeness d = made("w2 2;");
            for (int k = 1; k <= 17; k++) {
                d.look();
                c.due("can be undone", d.told(20), Math.min(16, k));
            }
            for (int k = 15; k >= 0; k--) {
                c.due("undo()", d.undo(), k);
                c.due("LOOKS ahead of it", d.told(10), k + 1);
            }
            c.due("undo() again", d.undo(), NOT);
            c.due("LOOKS that stay", d.told(10), 1);
        }, Break.of("MOST_UNDONE = 16", "MOST_UNDONE = 15"), Break.of("MOST_UNDONE = 16", "MOST_UNDONE = 17"),
                Break.in("void push(", "end + 1 < MOST_UNDONE ? end + 1 : 0", "Math.min(end + 1, MOST_UNDONE - 1)"),
                Break.in("void push(", "if (end >= 0 &&", "if (end >= 1 &&"));
        edge("all of section 2 is as ahead of it", "CELLS, LEAKS, WIND, filled ones, DAYS, LOOKS, BRUSHES", c -> {
            DampLikeness d = lived();
            d.seed(0);
            String ahead = Check.all(d);
            doAllSeven(d);
            for (int k = 8; k >= 2; k--) {
                c.due("undo()", d.undo(), k);
            }
            d.seed(0);
            c.dueText("all", Check.all(d), ahead);
        }, Break.in("void copyFrom(", "wind = other.wind;", ""), Break.in("void copyFrom(", "filled = other.filled;", ""),
                Break.in("void copyFrom(", "days = other.days;", ""), Break.in("void copyFrom(", "looks = other.looks;", ""),
                Break.in("void copyFrom(", "brushes = other.brushes;", ""),
                Break.in("void copyFrom(", "System.arraycopy(other.leakAt, 0, leakAt, 0, MOST_LEAKS);", ""),
                Break.in("void copyFrom(", "System.arraycopy(other.wet, 0, wet, 0, MOST_CELLS);", ""));
        edge("as ahead of it; THE SEED stays.", "behind a drift() that is undone", c -> {
            DampLikeness d = made("w2 2;");
            d.drift(1);
            d.undo();
            c.due("two DRAWS from 0", d.seed(0), 1406932606);
        }, Break.atStart("int undo(", "draws.state = 0; "));
    }

    private static void doAllSeven(DampLikeness d) {
        d.day(5, 9);
        d.look();
        d.brush(4);
        d.lead(0, 0);
        d.wind(0);
        d.fill(2, true);
        d.drift(60);
    }

    private void images() {
        edge("IMAGES 0, 1 keep", "both, each its own; no third", c -> {
            DampLikeness d = made("w2 2;l3;");
            d.day(1, 1);
            c.due("keep(0)", d.keep(0), 1);
            d.day(1, 1);
            c.due("keep(1)", d.keep(1), 1);
            d.day(1, 1);
            c.due("keep(2)", d.keep(2), UNKNOWN);
            c.due("keep(-1)", d.keep(-1), UNKNOWN);
            d.goBack(0);
            c.due("IMAGE 0", d.cell(3), 1);
            d.goBack(1);
            c.due("IMAGE 1", d.cell(3), 2);
            d.goBack(0);
            c.due("IMAGE 0 again", d.cell(3), 1);
        }, Break.of("IMAGES = 2", "IMAGES = 1"), Break.of("IMAGES = 2", "IMAGES = 3"),
                Break.in("int goBack(", "images[i]", "images[0]"));
        edge("keep all of section 2, THE SEED.", "CELLS, LEAKS, WIND, filled ones, DAYS, LOOKS, BRUSHES; THE SEED", c -> {
            DampLikeness d = lived();
            d.keep(1);
            String ahead = Check.all(d);
            doAllSeven(d);
            d.goBack(1);
            c.dueText("all", Check.all(d), ahead);
        }, Break.in("int goBack(", "draws.state = image.drawState;", ""),
                Break.in("int keep(", "image.drawState = draws.state;", ""),
                Break.in("int keep(", "image.damp.copyFrom(now);", ""),
                Break.in("void copyFrom(", "looks = other.looks;", ""));
    }
}
