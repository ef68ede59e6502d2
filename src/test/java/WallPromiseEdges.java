/** Promises 1 to 9: a new object, the text, the wall, what can be read of it. */
final class WallPromiseEdges extends Edges {
    WallPromiseEdges() {
        newObject();
        feed();
        wall();
        wallClears();
        fault();
        told();
        parts();
    }

    private void newObject() {
        under("Promise 1: A new object");
        edge("No WALL.", "no ROW, no COLUMN, none of all; nothing to be done or tried", c -> {
            DampLikeness d = noWall();
            for (int what = 0; what <= 20; what++) {
                c.due("told(" + what + ")", d.told(what), what == 13 || what == 18 ? NONE : 0);
            }
            c.dueEach("no CELL and the like", UNKNOWN, d.cell(0), d.leak(0), d.crack(0, 0), d.likeness(0, 0), d.brush(0),
                    d.lead(0, 0), d.fill(0, true), d.leadTo(0, 0, 1, 0, 0), d.either(0, 0, 0), d.write(0, 0), d.wasRain(1));
            c.dueEach("not now", NOT, d.day(1, 0), d.look(), d.wind(0), d.drift(1), d.undo(), d.shown(0, 0),
                    d.first(0, 0), d.often(1, 0, 0, 0), d.wasRain(0), d.rainToTell(0), d.dryIn(), d.goBack(0), d.goBack(1));
            c.dueEach("nothing there", NONE, d.fault(), d.judge());
            c.dueEach("nothing had", 0, d.tear(), d.seed(0));
        }, Break.in("public DampLikeness()", "for (int i = 0", "plan.resize(2, 2); for (int i = 0"),
                Break.in("class Image", "boolean kept;", "boolean kept = true;"),
                Break.in("class Draws", "int state;", "int state = 1;"));
    }

    private void feed() {
        under("Promise 2: feed");
        edge("(a number 0 .. 255)", "0 and 255 are letters", c -> {
            DampLikeness d = noWall();
            c.due("feed(0)", d.feed(0), 1);
            c.due("feed(255)", d.feed(255), 2);
        }, Break.in("int feed(", "outside(letter, 0, 255)", "outside(letter, 1, 255)"),
                Break.in("int feed(", "outside(letter, 0, 255)", "outside(letter, 0, 254)"));
        edge("comes behind THE TEXT: how many it has.", "1, 2, .. 240, and 1 again behind wall()", c -> {
            DampLikeness d = noWall();
            for (int k = 1; k <= 240; k++) {
                c.due("feed(32)", d.feed(32), k);
            }
            c.due("letters", d.told(5), 240);
            d.wall();
            c.due("feed(32) behind wall()", d.feed(32), 1);
        }, Break.in("int add(int letter)", "count++; return count;", "return count++;"),
                Break.in("boolean read(", "count = 0;", ""));
        edge("OUTSIDE, FULL (240).", "OUTSIDE: -1, 256, far ones", c -> {
            DampLikeness d = noWall();
            c.dueEach("no letters", OUTSIDE, d.feed(-1), d.feed(256), d.feed(LEAST), d.feed(MOST), d.feed(119 + 256));
            c.due("letters", d.told(5), 0);
        }, Break.in("int feed(", "outside(letter, 0, 255)", "outside(letter, -1, 255)"),
                Break.in("int feed(", "outside(letter, 0, 255)", "outside(letter, 0, 256)"),
                Break.in("int feed(", "outside(letter, 0, 255)", "outside(letter % 256, 0, 255)"));
        edge("FULL (240).", "the 240th letter is taken, the 241st is not", c -> {
            DampLikeness d = Check.fed(blanks(239));
            c.due("the 240th", d.feed(32), 240);
            c.due("the 241st", d.feed(32), FULL);
            c.due("letters", d.told(5), 240);
            d.wall();
            c.due("behind wall()", d.feed(32), 1);
        }, Break.of("MOST_LETTERS = 240", "MOST_LETTERS = 239"), Break.of("MOST_LETTERS = 240", "MOST_LETTERS = 241"));
    }

    private void wall() {
        under("Promise 3: wall");
        edge("THE TEXT (it is empty then, with a FAULT, too)", "behind a WALL, behind a FAULT", c -> {
            DampLikeness d = made("w2 2;");
            c.due("letters", d.told(5), 0);
            Check.feed(d, "w2 2;x");
            d.wall();
            c.due("letters behind a FAULT", d.told(5), 0);
            Check.feed(d, "w2 3;");
            c.due("the next text stands alone", d.wall(), 6);
        }, Break.in("boolean read(", "count = 0; return faultKind == 0;",
                "if (faultKind == 0) { count = 0; } return faultKind == 0;"),
                Break.in("boolean read(", "count = 0;", ""));
        edge("becomes THE WALL", "behind two other WALLS, behind a FAULT: nothing of these is left", c -> {
            DampLikeness d = made("w5 2;l9;l8;l7;l6;c0 1;c6 7;c2 3;f1,1,1,1,1;f1,1,1,1,1;n1;");
            Check.feed(d, "w2 2;l0;l1;c0 1;f1,1;");
            c.due("the second", d.wall(), 4);
            thirdWall(c, d);
            DampLikeness fault = Check.fed("w5 2;l9;l8;l7;l6;c0 1;c6 7;c2 3;f1,1,1,1,1;n1;x");
            c.due("a FAULT", fault.wall(), -11);
            thirdWall(c, fault);
        }, Break.in("void clear() { resize", "leakCount = 0;", ""), Break.in("void clear() { resize", "crackCount = 0;", ""),
                Break.in("void clear() { resize", "faceCount = 0;", ""),
                Break.in("void resize(", "firstColumn = 0;", ""),
                Break.in("void runByCracks(", "c < plan.crackCount", "c <= plan.crackCount"),
                Break.in("boolean read(", "windTold = false;", ""));
        edge("how many CELLS", "4 is the least, 25 the most; 0: no WALL", c -> {
            c.due("2 by 2", Check.fed("w2 2;").wall(), 4);
            c.due("5 by 5", Check.fed("w5 5;").wall(), 25);
            c.due("2 by 5", Check.fed("w2 5;").wall(), 10);
            c.due("no WALL", Check.fed(" ").wall(), 0);
        }, Break.in("int wall(", "return plan.cells();", "return plan.rows;"), Break.of("MOST_SIDE = 5", "MOST_SIDE = 4"));
        edge("-10 less the number of its FAULT", "each FAULT: -11 to -14", c -> {
            c.due("1", Check.fed("x").wall(), -11);
            c.due("2", Check.fed("w1 2;").wall(), -12);
            c.due("3", Check.fed("w2 2;w").wall(), -13);
            c.due("4", Check.fed("w2 2;c0 3;").wall(), -14);
        }, Break.in("int wall(", "-10 - reader.faultKind", "-10 + reader.faultKind"),
                Break.in("int wall(", "-10 - reader.faultKind", "-9 - reader.faultKind"));
        edge("(all else is as it was)",
                "behind a FAULT at the end of a long text: WALL, BOOK, IMAGES, what can be undone", c -> {
            DampLikeness d = lived();
            c.due("two can be undone", d.told(20), 2);
            String ahead = Check.all(d);
            Check.feed(d, "w2 5;l9;l8;l7;c0 1;f31,31;n2;q");
            c.due("wall()", d.wall(), -11);
            String behind = Check.all(d);
            c.dueText("all but fault()", behind.substring(0, behind.lastIndexOf(' ')), ahead.substring(0, ahead.lastIndexOf(' ')));
            c.due("likeness(0, 0)", d.likeness(0, 0), 7 | 5 << 3 | 2 << 6);
            c.due("undo()", d.undo(), 1);
            c.due("goBack(0)", d.goBack(0), 1);
        }, Break.in("int wall(", "if (!reader.read(spare)) {", "if (!reader.read(plan)) {"),
                Break.in("int wall(", "return -10", "book.clear(); return -10"),
                Break.in("int wall(", "return -10", "past.clear(); return -10"),
                Break.in("int wall(", "return -10", "images[0].kept = false; return -10"),
                Break.in("int wall(", "return -10", "draws.state = 0; return -10"));
    }

    /** Three in the lower row show: they are side by side though in a narrower wall they were not. */
    private static void thirdWall(Check c, DampLikeness d) {
        Check.feed(d, "w2 4;l4;l5;l6;c4 5;n0;");
        c.due("the third", d.wall(), 8);
        c.due("LEAKS", d.told(2), 3);
        c.due("CRACKS", d.told(3), 1);
        c.due("LIKENESSES", d.told(4), 0);
        c.due("WIND", d.told(7), 0);
        c.due("day(1, 5)", d.day(1, 5), 3);
        c.cells("behind a DAY", d, 0, 0, 0, 0, 5, 5, 5, 0);
        c.due("GROUPS", d.told(15), 1);
    }

    /** Another wall behind one on which all has been done. */
    private static DampLikeness anew(String text) {
        DampLikeness d = lived();
        d.keep(1);
        d.day(1, 9);
        Check.feed(d, text);
        d.wall();
        return d;
    }

    private void wallClears() {
        String next = "w3 3;l4;l8;c0 1;f1,1,1;n1;";
        edge("(DAY 0, nothing WET", "behind a WALL with DAYS, that is WET", c -> {
            DampLikeness d = anew(next);
            c.due("DAYS", d.told(6), 0);
            c.due("ALL WET", d.told(12), 0);
            c.due("what SHOWS", d.told(8), 0);
            c.cells("nothing WET", d, 0, 0, 0, 0, 0, 0, 0, 0, 0);
            DampLikeness smaller = anew("w2 2;");
            c.due("a smaller WALL: ALL WET", smaller.told(12), 0);
            c.due("a smaller WALL: cell(4)", smaller.cell(4), UNKNOWN);
        }, Break.in("void begin(", "days = 0;", ""), Break.in("void begin(", "wet[x] = 0;", ""),
                Break.in("void begin(", "x < wet.length", "x < plan.cells()"));
        edge("WIND, LEAKS as told", "behind a WALL whose WIND and LEAKS are others now; untold ones", c -> {
            DampLikeness d = anew(next);
            c.due("WIND", d.told(7), 1);
            c.due("leak(0)", d.leak(0), 4);
            c.due("leak(1)", d.leak(1), 8);
            DampLikeness untold = anew("w2 2;");
            c.due("WIND untold", untold.told(7), 0);
            c.due("LEAKS untold", untold.told(2), 0);
            c.due("leak(0)", untold.leak(0), UNKNOWN);
        }, Break.in("void begin(", "wind = plan.wind;", ""),
                Break.in("void begin(", "leakAt[l] = pick(plan.leakAt, l);", ""));
        edge("no CRACK filled", "the same CRACK was filled", c -> {
            DampLikeness d = anew(next);
            c.due("filled ones", d.told(9), 0);
            c.due("crack(0, 2)", d.crack(0, 2), 0);
        }, Break.in("void begin(", "filled = 0;", ""));
        edge("nothing counted", "LOOKS and BRUSHES were", c -> {
            DampLikeness d = anew(next);
            c.due("LOOKS", d.told(10), 0);
            c.due("BRUSHES", d.told(11), 0);
        }, Break.in("void begin(", "looks = 0;", ""), Break.in("void begin(", "brushes = 0;", ""));
        edge("no BOOK", "there was an entry", c -> {
            DampLikeness d = anew(next);
            c.due("entries", d.told(19), 0);
            c.due("judge()", d.judge(), NONE);
        }, Break.in("int wall(", "book.clear();", ""));
        edge("IMAGES, what could be undone are gone", "both were kept, one could be undone", c -> {
            DampLikeness d = anew(next);
            c.due("goBack(0)", d.goBack(0), NOT);
            c.due("goBack(1)", d.goBack(1), NOT);
            c.due("undo()", d.undo(), NOT);
            c.due("can be undone", d.told(20), 0);
            DampLikeness none = anew("");
            c.due("no WALL: goBack(0)", none.goBack(0), NOT);
            c.due("no WALL: undo()", none.undo(), NOT);
        }, Break.in("int wall(", "past.clear();", ""), Break.in("int wall(", "i < images.length", "i < 1"),
                Break.in("int wall(", "int i = 0", "int i = 1"));
        edge("THE SEED stays", "behind a WALL, behind no WALL", c -> {
            c.due("a WALL", anew(next).seed(0), 12);
            c.due("no WALL", anew("").seed(0), 12);
        }, Break.atStart("int wall(", "draws.state = 0; "));
    }

    private void fault() {
        under("Promise 4: fault");
        edge("The letter of the FAULT of the latest wall()",
                "0 and 240; of two the latest; while the next text is fed", c -> {
            DampLikeness d = Check.fed("x");
            d.wall();
            c.due("the first letter", d.fault(), 0);
            Check.feed(d, blanks(239) + "w");
            d.wall();
            c.due("the end of 240 letters", d.fault(), 240);
            Check.feed(d, "w2 2;x");
            c.due("while another is fed", d.fault(), 240);
            d.wall();
            c.due("the latest", d.fault(), 5);
            c.due("again", d.fault(), 5);
        }, Break.in("void fail(", "faultAt = where;", "faultAt = count;"),
                Break.in("int add(int letter)", "count++;", "count++; faultAt = NONE;"),
                Break.in("int fault(", "return reader.faultAt;",
                        "int was = reader.faultAt; reader.faultAt = NONE; return was;"));
        edge("NONE.", "ahead of any wall(); behind a WALL, an empty text, a FAULT and then a WALL", c -> {
            c.due("a new object", noWall().fault(), NONE);
            c.due("a WALL", made("w2 2;").fault(), NONE);
            DampLikeness d = Check.fed("x");
            d.wall();
            Check.feed(d, "w2 2;");
            d.wall();
            c.due("a FAULT, then a WALL", d.fault(), NONE);
            d.feed('x');
            d.wall();
            d.wall();
            c.due("a FAULT, then an empty text", d.fault(), NONE);
        }, Break.of("int faultAt = NONE;", "int faultAt;"), Break.in("boolean read(", "faultAt = NONE;", ""));
    }

    private void told() {
        under("Promise 5: told");
        edge("0 ROWS", "0 to 20, each its own", c -> {
            DampLikeness d = made("w3 4;l0;l0;l0;l0;c0 1;c1 2;c2 3;c4 5;c5 6;f15,0,0;f3,0,0;f3,1,0;n0;");
            for (int k = 0; k < 5; k++) {
                d.fill(k, true);
            }
            for (int row = 2; row >= 0; row--) {
                for (int l = 0; l < 4; l++) {
                    d.lead(l, row * 4 + l);
                }
                d.day(1, 9);
            }
            for (int x : new int[] {2, 3, 5, 6, 7, 8, 9, 10}) {
                d.brush(x);
            }
            for (int l = 0; l < 4; l++) {
                d.lead(l, 11);
            }
            d.fill(4, false);
            d.look();
            d.write(0, 0);
            d.write(0, 1);
            d.keep(0);
            d.wind(2);
            d.wind(1);
            d.wind(2);
            d.feed(32);
            // 0, 1 and 4 show, and 11 alone: three of 8, 6 and 6 are left there, 7 here
            int[] want = {3, 4, 4, 5, 3, 1, 3, 2, Check.set(0, 1, 4, 11), 15, 1, 8, 8 + 6 + 6 + 7, 2, 0, 2,
                Check.set(0, 1, 4), 12, 0, 2, 3};
            for (int what = 0; what < want.length; what++) {
                c.due("told(" + what + ")", d.told(what), want[what]);
            }
        }, swap("case 0: return plan.rows;", "case 0: return plan.columns;"),
                swap("return plan.leakCount;", "return plan.crackCount;"),
                swap("return plan.faceCount;", "return plan.leakCount;"), swap("return reader.count;", "return 0;"),
                swap("return now.days;", "return now.looks;"),
                swap("return now.filled;", "return Integer.bitCount(now.filled);"),
                swap("return now.brushes;", "return now.looks;"), swap("return book.count;", "return past.count;"),
                swap("case 20: return past.count;", "case 20: return book.count;"),
                swap("return now.wind;", "return plan.wind;"));
        edge("OUTSIDE.", "-1 and 21, far ones", c -> {
            DampLikeness d = made("w2 2;");
            c.dueEach("no such thing", OUTSIDE, d.told(-1), d.told(21), d.told(LEAST), d.told(MOST), noWall().told(21));
        }, Break.in("int told(", "default: return OUTSIDE;", "case 21: return 0; default: return OUTSIDE;"),
                Break.in("int told(", "default: return OUTSIDE;", "case -1: return NONE; default: return OUTSIDE;"));
        edge("9 filled ones (a SET of CRACKS)", "none, the sixth, all six", c -> {
            DampLikeness d = made("w3 3;c0 1;c1 2;c3 4;c4 5;c6 7;c7 8;");
            c.due("none", d.told(9), 0);
            d.fill(5, true);
            c.due("the sixth", d.told(9), 32);
            for (int k = 0; k < 6; k++) {
                d.fill(k, true);
            }
            c.due("all", d.told(9), 63);
        }, Break.in("int fill(", "now.filled | (1 << c)", "now.filled | (1 << Math.min(c, 4))"));
        edge("20 how many can be undone", "0, 16 at most, 0 behind keep()", c -> {
            DampLikeness d = made("w2 2;");
            c.due("none", d.told(20), 0);
            for (int k = 0; k < 20; k++) {
                d.look();
            }
            c.due("16 at most", d.told(20), 16);
            d.undo();
            c.due("15 then", d.told(20), 15);
            d.keep(0);
            c.due("none behind keep()", d.told(20), 0);
        }, Break.in("void push(", "Math.min(MOST_UNDONE, count + 1)", "count + 1"),
                Break.in("int keep(", "past.clear();", ""));
    }

    private static Break swap(String from, String to) {
        return Break.in("int told(", from, to);
    }

    private void parts() {
        under("Promise 6: cell");
        edge("By how much a CELL is WET.", "0 and 9; the first and the last CELL", c -> {
            DampLikeness d = made("w5 5;l24;l0;");
            c.due("cell(0)", d.cell(0), 0);
            d.day(1, 9);
            c.due("cell(24)", d.cell(24), 9);
            c.due("cell(0)", d.cell(0), 8);
        }, Break.of("MOST_CELLS = 25", "MOST_CELLS = 24"));
        edge("UNKNOWN.", "one less, one more; no WALL; a smaller WALL behind a greater one", c -> {
            DampLikeness d = made("w5 5;");
            c.dueEach("25 CELLS", UNKNOWN, d.cell(-1), d.cell(25), d.cell(LEAST), d.cell(MOST));
            Check.feed(d, "w2 3;");
            d.wall();
            c.due("six: cell(5)", d.cell(5), 0);
            c.due("six: cell(6)", d.cell(6), UNKNOWN);
            c.due("no WALL", noWall().cell(0), UNKNOWN);
        }, Break.in("boolean hasCell(", "x < cells()", "x <= cells()"), Break.in("boolean hasCell(", "x >= 0 &&", ""),
                Break.in("boolean hasCell(", "x < cells()", "x < MOST_CELLS"));
        under("Promise 7: leak");
        edge("At which CELL a LEAK is.", "the fourth LEAK, at the last CELL; one that was LED", c -> {
            DampLikeness d = made("w5 5;l1;l2;l3;l24;");
            c.due("leak(3)", d.leak(3), 24);
            c.due("leak(0)", d.leak(0), 1);
            d.lead(3, 0);
            c.due("leak(3), LED", d.leak(3), 0);
        }, Break.in("int leak(", "pick(now.leakAt, l)", "pick(plan.leakAt, l)"));
        edge("UNKNOWN.", "one less, one more; no LEAK; no WALL", c -> {
            DampLikeness d = made("w2 2;l0;l0;l0;l0;");
            c.dueEach("four LEAKS", UNKNOWN, d.leak(-1), d.leak(4), d.leak(LEAST), d.leak(MOST));
            c.due("no LEAK", made("w2 2;").leak(0), UNKNOWN);
            c.due("two: leak(2)", made("w2 2;l0;l0;").leak(2), UNKNOWN);
            c.due("no WALL", noWall().leak(0), UNKNOWN);
        }, Break.in("boolean hasLeak(", "l < leakCount", "l <= leakCount"), Break.in("boolean hasLeak(", "l >= 0 &&", ""),
                Break.in("boolean hasLeak(", "l < leakCount", "l < MOST_LEAKS"));
        under("Promise 8: crack");
        edge("what = 0 A, 1 B, 2 1 it is filled, 0 not.",
                "the first and the sixth CRACK, filled and open; A may be the greater", c -> {
            DampLikeness d = made("w3 3;c1 0;c1 2;c3 4;c4 5;c6 7;c7 8;");
            d.fill(5, true);
            c.due("crack(0, 0)", d.crack(0, 0), 1);
            c.due("crack(0, 1)", d.crack(0, 1), 0);
            c.due("crack(0, 2)", d.crack(0, 2), 0);
            c.due("crack(5, 0)", d.crack(5, 0), 7);
            c.due("crack(5, 1)", d.crack(5, 1), 8);
            c.due("crack(5, 2)", d.crack(5, 2), 1);
        }, Break.in("int crack(", "case 0: return pick(plan.crackA, c);",
                "case 0: return Math.min(pick(plan.crackA, c), pick(plan.crackB, c));"),
                Break.in("int crack(", "now.isFilled(c) ? 1 : 0", "now.filled != 0 ? 1 : 0"),
                Break.of("MOST_CRACKS = 6", "MOST_CRACKS = 5"));
        edge("UNKNOWN, OUTSIDE.", "UNKNOWN: one less, one more; no CRACK; no WALL; ahead of OUTSIDE", c -> {
            DampLikeness d = made("w2 2;c0 1;");
            c.dueEach("one CRACK", UNKNOWN, d.crack(-1, 0), d.crack(1, 0), d.crack(LEAST, 0), d.crack(MOST, 0),
                    d.crack(1, 3));
            c.due("no CRACK", made("w2 2;").crack(0, 0), UNKNOWN);
            c.due("no WALL", noWall().crack(0, 3), UNKNOWN);
        }, Break.in("boolean hasCrack(", "c < crackCount", "c <= crackCount"),
                Break.in("boolean hasCrack(", "c >= 0 &&", ""));
        edge("OUTSIDE.", "what: -1 and 3, far ones", c -> {
            DampLikeness d = made("w2 2;c0 1;");
            c.dueEach("what", OUTSIDE, d.crack(0, -1), d.crack(0, 3), d.crack(0, LEAST), d.crack(0, MOST));
        }, Break.in("int crack(", "default: return OUTSIDE;", "case 3: return 0; default: return OUTSIDE;"),
                Break.in("int crack(", "default: return OUTSIDE;", "case -1: return NONE; default: return OUTSIDE;"));
        under("Promise 9: likeness");
        edge("what = 0 its CELLS (a SET), 1 LIKE now, 2 FEWEST BRUSHES.",
                "the first and the fifth; no CELL, all of 25", c -> {
            DampLikeness d = made("w5 5;l24;f0,0,0,0,0;f0,0,0,0,1;f0,0,0,0,1;f0,0,0,0,1;f31,31,31,31,31;");
            d.day(1, 9);
            c.due("likeness(0, 0)", d.likeness(0, 0), 0);
            c.due("likeness(0, 1)", d.likeness(0, 1), 24);
            c.due("likeness(0, 2)", d.likeness(0, 2), 1);
            c.due("likeness(4, 0)", d.likeness(4, 0), (1 << 25) - 1);
            c.due("likeness(4, 1)", d.likeness(4, 1), 1);
            c.due("likeness(4, 2)", d.likeness(4, 2), 0);
        }, Break.in("int likeness(", "case 0: return face;", "case 0: return Integer.bitCount(face);"),
                Break.in("int likeness(", "case 1: return Marks.like(plan, now.marks(), face);",
                        "case 1: return Integer.bitCount(now.marks() & face);"),
                Break.of("MOST_FACES = 5", "MOST_FACES = 4"));
        edge("UNKNOWN, OUTSIDE.", "UNKNOWN: one less, one more; no LIKENESS; no WALL; ahead of OUTSIDE", c -> {
            DampLikeness d = made("w2 2;f0,0;");
            c.dueEach("one", UNKNOWN, d.likeness(-1, 0), d.likeness(1, 0), d.likeness(LEAST, 0), d.likeness(MOST, 0),
                    d.likeness(1, 3));
            c.due("none", made("w2 2;").likeness(0, 0), UNKNOWN);
            c.due("no WALL", noWall().likeness(0, 3), UNKNOWN);
        }, Break.in("boolean hasFace(", "f < faceCount", "f <= faceCount"), Break.in("boolean hasFace(", "f >= 0 &&", ""));
        edge("OUTSIDE.", "what: -1 and 3, far ones", c -> {
            DampLikeness d = made("w2 2;f0,0;");
            c.dueEach("what", OUTSIDE, d.likeness(0, -1), d.likeness(0, 3), d.likeness(0, LEAST), d.likeness(0, MOST));
        }, Break.in("int likeness(", "default: return OUTSIDE;", "case 3: return 0; default: return OUTSIDE;"),
                Break.in("int likeness(", "default: return OUTSIDE;", "case -1: return NONE; default: return OUTSIDE;"));
    }
}
