/** Promises 10 to 17: what is done, and undone. */
final class DonePromiseEdges extends Edges {
    private static final String NO_WALL = "if (noWall()) { return NOT; }";

    DonePromiseEdges() {
        day();
        look();
        brush();
        lead();
        wind();
        fill();
        drift();
        undo();
    }

    private void day() {
        under("Promise 10: day");
        edge("n DAYS (1 .. 60)", "1 and 60 of them", c -> {
            DampLikeness d = made("w2 2;l3;");
            c.due("day(1, 3)", d.day(1, 3), 1);
            c.due("DAYS", d.told(6), 1);
            c.due("day(60, 9)", d.day(60, 9), 1);
            c.due("DAYS", d.told(6), 61);
        }, Break.in("int day(", "outside(n, 1, MOST_DAYS)", "outside(n, 2, MOST_DAYS)"),
                Break.in("int day(", "outside(n, 1, MOST_DAYS)", "outside(n, 1, MOST_DAYS - 1)"),
                Break.in("void rainDays(", "k < n", "k < n - 1"));
        edge("of RAIN r (0 .. 9): how many CELLS SHOW.", "RAIN 0 and RAIN 9; none and all that can SHOW", c -> {
            DampLikeness d = made("w2 2;l0;l1;l2;l3;");
            c.due("day(1, 0)", d.day(1, 0), 0);
            c.due("day(1, 9)", d.day(1, 9), 4);
            c.due("day(60, 0)", d.day(60, 0), 0);
        }, Break.in("int day(", "outside(r, 0, MOST_RAIN)", "outside(r, 1, MOST_RAIN)"),
                Break.in("int day(", "outside(r, 0, MOST_RAIN)", "outside(r, 0, MOST_RAIN - 1)"),
                Break.in("int day(", "return now.markCount();", "return now.marks();"));
        edge("OUTSIDE, NOT: no WALL; FULL", "OUTSIDE: 0 and 61 DAYS, RAIN -1 and 10, far ones; without a WALL too", c -> {
            DampLikeness d = made("w2 2;l3;");
            c.dueEach("DAYS", OUTSIDE, d.day(0, 5), d.day(61, 5), d.day(-1, 5), d.day(LEAST, 5), d.day(MOST, 5),
                    noWall().day(0, 5));
            c.dueEach("RAIN", OUTSIDE, d.day(1, -1), d.day(1, 10), d.day(1, LEAST), d.day(1, MOST), noWall().day(1, 10));
            c.due("no DAY", d.told(6), 0);
        }, Break.in("int day(", "outside(n, 1, MOST_DAYS)", "outside(n, 0, MOST_DAYS)"),
                Break.in("int day(", "outside(n, 1, MOST_DAYS)", "outside(n, 1, MOST_DAYS + 1)"),
                Break.in("int day(", "outside(r, 0, MOST_RAIN)", "outside(r, -1, MOST_RAIN)"),
                Break.in("int day(", "outside(r, 0, MOST_RAIN)", "outside(r, 0, MOST_RAIN + 1)"));
        edge("NOT: no WALL; FULL", "NOT: on a new object; behind an empty text", c -> {
            c.due("new", noWall().day(1, 0), NOT);
            DampLikeness d = made("w2 2;");
            d.wall();
            c.due("an empty text", d.day(60, 9), NOT);
        }, Break.in("int day(", NO_WALL, ""));
        edge("FULL: DAYS are above 9000.", "9000 are not: they take 60 more; 9001 are", c -> {
            DampLikeness d = old();
            c.due("DAYS", d.told(6), 9000);
            c.due("day(60, 0)", d.day(60, 0), 0);
            c.due("DAYS", d.told(6), 9060);
            c.due("9060: day(1, 0)", d.day(1, 0), FULL);
            d.undo();
            c.due("9000: day(1, 0)", d.day(1, 0), 0);
            c.due("9001: day(1, 0)", d.day(1, 0), FULL);
            c.due("DAYS", d.told(6), 9001);
        }, Break.of("FULL_DAYS = 9000", "FULL_DAYS = 8999"), Break.of("FULL_DAYS = 9000", "FULL_DAYS = 9001"),
                Break.in("int day(", "now.days > FULL_DAYS", "now.days + n > FULL_DAYS"));
    }

    private void look() {
        under("Promise 11: look");
        edge("LOOKED: how many CELLS SHOW.", "none; those behind it, not ahead of it", c -> {
            DampLikeness d = made("w2 2;l3;");
            c.due("dry", d.look(), 0);
            d.day(1, 5);
            c.due("5 becomes 3", d.look(), 1);
            c.due("3 becomes 1", d.look(), 0);
        }, Break.in("int look(", "now.shrink(plan); return now.markCount();",
                "int was = now.markCount(); now.shrink(plan); return was;"));
        edge("NOT: no WALL.", "on a new object; behind an empty text", c -> {
            c.due("new", noWall().look(), NOT);
            DampLikeness d = made("w2 2;");
            d.wall();
            c.due("an empty text", d.look(), NOT);
        }, Break.in("int look(", NO_WALL, ""));
    }

    private void brush() {
        under("Promise 12: brush");
        edge("BRUSHED: by how much it was WET.", "9, and 0 then; the last of 25 CELLS", c -> {
            DampLikeness d = made("w5 5;l24;");
            d.day(1, 9);
            c.due("brush(24)", d.brush(24), 9);
            c.due("brush(24) again", d.brush(24), 0);
            c.due("brush(0)", d.brush(0), 0);
        }, Break.in("int brush(", "return was;", "return 0;"), Break.of("MOST_CELLS = 25", "MOST_CELLS = 24"));
        edge("UNKNOWN.", "one less, one more; no WALL", c -> {
            DampLikeness d = made("w2 2;l3;");
            c.dueEach("four CELLS", UNKNOWN, d.brush(-1), d.brush(4), d.brush(LEAST), d.brush(MOST));
            c.due("no WALL", noWall().brush(0), UNKNOWN);
            c.due("BRUSHES", d.told(11), 0);
        }, Break.in("boolean hasCell(", "x < cells()", "x <= cells()"), Break.in("boolean hasCell(", "x >= 0 &&", ""));
    }

    private void lead() {
        under("Promise 13: lead");
        edge("LED: the CELL where it was.", "as told, as LED, the same CELL again; the fourth LEAK, the last CELL", c -> {
            DampLikeness d = made("w5 5;l0;l0;l0;l1;");
            c.due("lead(3, 24)", d.lead(3, 24), 1);
            c.due("lead(3, 24) again", d.lead(3, 24), 24);
            c.due("lead(3, 0)", d.lead(3, 0), 24);
            c.due("leak(3)", d.leak(3), 0);
        }, Break.in("int lead(", "return was;", "return x;"),
                Break.in("int lead(", "int was = pick(now.leakAt, l);", "int was = pick(plan.leakAt, l);"));
        edge("UNKNOWN.", "LEAK and CELL, one less, one more; no LEAK; no WALL", c -> {
            DampLikeness d = made("w2 2;l0;");
            c.dueEach("the LEAK", UNKNOWN, d.lead(-1, 0), d.lead(1, 0), d.lead(LEAST, 0), d.lead(MOST, 0));
            c.dueEach("the CELL", UNKNOWN, d.lead(0, -1), d.lead(0, 4), d.lead(0, LEAST), d.lead(0, MOST));
            c.due("no LEAK", made("w2 2;").lead(0, 0), UNKNOWN);
            c.due("no WALL", noWall().lead(0, 0), UNKNOWN);
            c.due("leak(0)", d.leak(0), 0);
        }, Break.in("int lead(", "!plan.hasLeak(l) ||", ""), Break.in("int lead(", "|| !plan.hasCell(x)", ""),
                Break.in("boolean hasCell(", "x < cells()", "x <= cells()"),
                Break.in("boolean hasLeak(", "l < leakCount", "l <= leakCount"));
    }

    private void wind() {
        under("Promise 14: wind");
        edge("WIND (0 .. 2): what it was.", "0 and 2; as told; the same again", c -> {
            DampLikeness d = made("w2 2;n1;");
            c.due("wind(2)", d.wind(2), 1);
            c.due("wind(2) again", d.wind(2), 2);
            c.due("wind(0)", d.wind(0), 2);
            c.due("wind(1)", d.wind(1), 0);
        }, Break.in("int wind(", "outside(n, 0, MOST_WIND)", "outside(n, 1, MOST_WIND)"),
                Break.in("int wind(", "outside(n, 0, MOST_WIND)", "outside(n, 0, MOST_WIND - 1)"),
                Break.in("int wind(", "return was;", "return n;"));
        edge("OUTSIDE, NOT: no WALL.", "OUTSIDE: -1 and 3, far ones; without a WALL too", c -> {
            DampLikeness d = made("w2 2;n1;");
            c.dueEach("WIND", OUTSIDE, d.wind(-1), d.wind(3), d.wind(LEAST), d.wind(MOST), noWall().wind(3),
                    noWall().wind(-1));
            c.due("WIND stays", d.told(7), 1);
        }, Break.in("int wind(", "outside(n, 0, MOST_WIND)", "outside(n, -1, MOST_WIND)"),
                Break.in("int wind(", "outside(n, 0, MOST_WIND)", "outside(n, 0, MOST_WIND + 1)"));
        edge("NOT: no WALL.", "on a new object; behind an empty text", c -> {
            c.dueEach("new", NOT, noWall().wind(0), noWall().wind(2));
            DampLikeness d = made("w2 2;");
            d.wall();
            c.due("an empty text", d.wind(1), NOT);
        }, Break.in("int wind(", NO_WALL, ""));
    }

    private void fill() {
        under("Promise 15: fill");
        edge("FILLED (is), or open: 1 it was filled, 0 not.", "each from each; the sixth CRACK", c -> {
            DampLikeness d = made("w3 3;c0 1;c1 2;c3 4;c4 5;c6 7;c7 8;");
            c.due("open, opened", d.fill(5, false), 0);
            c.due("open, filled", d.fill(5, true), 0);
            c.due("filled, filled", d.fill(5, true), 1);
            c.due("filled, opened", d.fill(5, false), 1);
            c.due("filled ones", d.told(9), 0);
        }, Break.in("int fill(", "return was;", "return 1 - was;"),
                Break.in("int fill(", "return was;", "return is ? 1 : 0;"),
                Break.in("int fill(", "is ?", "!is ?"));
        edge("UNKNOWN.", "one less, one more; no CRACK; no WALL", c -> {
            DampLikeness d = made("w2 2;c0 1;");
            c.dueEach("one CRACK", UNKNOWN, d.fill(-1, true), d.fill(1, true), d.fill(LEAST, false),
                    d.fill(MOST, false), d.fill(32, true));
            c.due("no CRACK", made("w2 2;").fill(0, true), UNKNOWN);
            c.due("no WALL", noWall().fill(0, false), UNKNOWN);
            c.due("filled ones", d.told(9), 0);
        }, Break.in("boolean hasCrack(", "c < crackCount", "c <= crackCount"),
                Break.in("boolean hasCrack(", "c >= 0 &&", ""));
    }

    private void drift() {
        under("Promise 16: drift");
        edge("n DAYS (1 .. 60) BY DRAWS", "1 and 60 of them", c -> {
            DampLikeness d = made("w2 2;");
            c.due("drift(1)", d.drift(1), 0);
            c.due("DAYS", d.told(6), 1);
            c.due("drift(60)", d.drift(60), 0);
            c.due("DAYS", d.told(6), 61);
        }, Break.in("int drift(", "outside(n, 1, MOST_DAYS)", "outside(n, 2, MOST_DAYS)"),
                Break.in("int drift(", "outside(n, 1, MOST_DAYS)", "outside(n, 1, MOST_DAYS - 1)"),
                Break.in("int drift(", "k < n", "k < n - 1"));
        edge("how many CELLS SHOW.", "as many as told(8) has", c -> {
            DampLikeness d = made("w5 5;l0;l12;l13;l24;c12 17;n2;");
            boolean many = false;
            for (int n = 1; n <= 60; n += 6) {
                int shows = d.drift(n);
                c.due("drift(" + n + ")", shows, Integer.bitCount(d.told(8)));
                many |= shows > 1;
            }
            c.due("more than one", many ? 1 : 0, 1);
        }, Break.in("int drift(", "return now.markCount();", "return now.marks();"),
                Break.in("int drift(", "for (int k = 0; k < n; k++) { driftOneDay(); } return now.markCount();",
                        "int was = now.markCount(); for (int k = 0; k < n; k++) { driftOneDay(); } return was;"));
        edge("OUTSIDE, NOT: no WALL; FULL", "OUTSIDE: 0 and 61, far ones; without a WALL too", c -> {
            DampLikeness d = made("w2 2;");
            c.dueEach("DAYS", OUTSIDE, d.drift(0), d.drift(61), d.drift(-1), d.drift(LEAST), d.drift(MOST),
                    noWall().drift(0));
            c.due("THE SEED", d.seed(0), 0);
        }, Break.in("int drift(", "outside(n, 1, MOST_DAYS)", "outside(n, 0, MOST_DAYS)"),
                Break.in("int drift(", "outside(n, 1, MOST_DAYS)", "outside(n, 1, MOST_DAYS + 1)"));
        edge("NOT: no WALL; FULL", "NOT: on a new object; behind an empty text", c -> {
            c.due("new", noWall().drift(1), NOT);
            DampLikeness d = made("w2 2;");
            d.wall();
            c.due("an empty text", d.drift(60), NOT);
        }, Break.in("int drift(", NO_WALL, ""));
        edge("FULL: DAYS are above 9000.", "9000 are not: they take 60 more; 9001 are", c -> {
            DampLikeness d = old();
            d.lead(0, 0);
            c.due("drift(60)", d.drift(60) >= 0 ? 1 : 0, 1);
            c.due("DAYS", d.told(6), 9060);
            c.due("9060: drift(1)", d.drift(1), FULL);
            d.undo();
            d.day(1, 0);
            c.due("9001: drift(1)", d.drift(1), FULL);
            c.due("DAYS", d.told(6), 9001);
        }, Break.in("int drift(", "now.days > FULL_DAYS", "now.days >= FULL_DAYS"),
                Break.in("int drift(", "now.days > FULL_DAYS", "now.days > FULL_DAYS + 1"),
                Break.in("int drift(", "now.days > FULL_DAYS", "now.days + n > FULL_DAYS"));
    }

    private void undo() {
        under("Promise 17: undo");
        edge("The latest is undone: how many more can be.", "15 behind the first of 16, 0 behind the last", c -> {
            DampLikeness d = made("w2 2;l3;");
            for (int k = 0; k < 16; k++) {
                d.day(1, 1);
            }
            for (int k = 15; k >= 0; k--) {
                c.due("undo()", d.undo(), k);
                c.due("DAYS", d.told(6), k);
            }
            d.look();
            c.due("undo() of a next one", d.undo(), 0);
        }, Break.in("int undo(", "past.pop(now) ? past.count", "past.pop(now) ? past.count + 1"),
                Break.in("boolean pop(", "count--;", ""),
                Break.in("boolean pop(", "end > 0 ? end - 1 : MOST_UNDONE - 1", "end > 1 ? end - 1 : MOST_UNDONE - 1"));
        edge("NOT: none.", "on a new object; on a new WALL; behind the last; behind keep() and goBack()", c -> {
            c.due("new", noWall().undo(), NOT);
            DampLikeness d = made("w2 2;");
            c.due("a new WALL", d.undo(), NOT);
            d.look();
            d.undo();
            c.due("behind the last", d.undo(), NOT);
            d.look();
            d.keep(0);
            c.due("behind keep()", d.undo(), NOT);
            d.look();
            d.goBack(0);
            c.due("behind goBack()", d.undo(), NOT);
        }, Break.in("boolean pop(", "if (count <= 0) {", "if (count < 0) {"), Break.in("int keep(", "past.clear();", ""),
                Break.in("int goBack(", "past.clear();", ""), Break.in("int undo(", ": NOT", ": 0"));
    }
}
