/** Promises 18 to 26: the bounds and refusals of what is tried. */
final class TriedPromiseEdges extends Edges {
    TriedPromiseEdges() {
        shown();
        first();
        leadTo();
        often();
        wasRain();
        rainToTell();
        dryIn();
        either();
        rainy();
    }

    private static DampLikeness emptied() {
        DampLikeness d = made("w2 2;l0;f1,1;");
        d.wall();
        return d;
    }

    private void shown() {
        under("Promise 18: shown");
        edge("SHOWN.", "nothing, and all of 25", c -> {
            c.due("nothing", made("w5 5;").shown(60, 9), 0);
            c.due("all", Check.painted(5, 5, "", (1 << 25) - 1).shown(0, 0), (1 << 25) - 1);
        }, Break.in("int shown(", "trial.marksBehind(plan, now, n, r)", "trial.marksBehind(plan, now, n + 60, r)"),
                Break.in("int marksBehind(", "return damp.marks();", "return damp.markCount();"));
        edge("OUTSIDE, NOT: no WALL.", "OUTSIDE: DAYS -1 and 61, RAIN -1 and 10; without a WALL too", c -> {
            DampLikeness d = made("w2 2;l3;");
            c.dueEach("DAYS", OUTSIDE, d.shown(-1, 0), d.shown(61, 0), d.shown(LEAST, 0), d.shown(MOST, 0),
                    noWall().shown(61, 0));
            c.dueEach("RAIN", OUTSIDE, d.shown(0, -1), d.shown(0, 10), d.shown(0, LEAST), d.shown(0, MOST),
                    noWall().shown(0, 10));
        }, Break.in("int shown(", "outside(n, 0, MOST_DAYS)", "outside(n, -1, MOST_DAYS)"),
                Break.in("int shown(", "outside(n, 0, MOST_DAYS)", "outside(n, 0, MOST_DAYS + 1)"),
                Break.in("int shown(", "outside(r, 0, MOST_RAIN)", "outside(r, -1, MOST_RAIN)"),
                Break.in("int shown(", "outside(r, 0, MOST_RAIN)", "outside(r, 0, MOST_RAIN + 1)"));
        edge("NOT: no WALL.", "on a new object; behind an empty text", c -> {
            c.dueEach("no WALL", NOT, noWall().shown(0, 0), noWall().shown(60, 9), emptied().shown(0, 0));
        }, Break.in("int shown(", "noWall() ? NOT :", ""));
    }

    private void first() {
        under("Promise 19: first");
        edge("FIRST (m 0 .. 25)", "m 0 and 25; 25 of 25 CELLS", c -> {
            c.due("m 0", made("w2 2;").first(0, 0), 0);
            c.due("m 25", made("w2 2;").first(25, 9), NONE);
            c.due("all of 25", Check.painted(5, 5, "", (1 << 25) - 1).first(25, 0), 0);
        }, Break.in("int first(", "outside(m, 0, MOST_CELLS)", "outside(m, 1, MOST_CELLS)"),
                Break.in("int first(", "outside(m, 0, MOST_CELLS)", "outside(m, 0, MOST_CELLS - 1)"));
        edge("(m 0 .. 25); NONE.", "behind 60 DAYS too few; on a WALL without a LEAK", c -> {
            DampLikeness d = made(TriedEdges.SLOW);
            d.day(2, 3);
            c.due("behind 61", d.first(9, 2), NONE);
            c.due("no LEAK", made("w2 2;").first(1, 9), NONE);
        }, Break.in("int daysTillMarks(", "k <= MOST_DAYS", "k <= MOST_DAYS + 1"),
                Break.in("int daysTillMarks(", "return NONE;", "return MOST_DAYS + 1;"));
        edge("OUTSIDE, NOT: no WALL.", "OUTSIDE: m -1 and 26, RAIN -1 and 10; without a WALL too", c -> {
            DampLikeness d = made("w2 2;l3;");
            c.dueEach("m", OUTSIDE, d.first(-1, 0), d.first(26, 0), d.first(LEAST, 0), d.first(MOST, 0),
                    noWall().first(26, 0));
            c.dueEach("RAIN", OUTSIDE, d.first(0, -1), d.first(0, 10), d.first(0, LEAST), d.first(0, MOST),
                    noWall().first(0, -1));
        }, Break.in("int first(", "outside(m, 0, MOST_CELLS)", "outside(m, -1, MOST_CELLS)"),
                Break.in("int first(", "outside(m, 0, MOST_CELLS)", "outside(m, 0, MOST_CELLS + 1)"),
                Break.in("int first(", "outside(r, 0, MOST_RAIN)", "outside(r, -1, MOST_RAIN)"),
                Break.in("int first(", "outside(r, 0, MOST_RAIN)", "outside(r, 0, MOST_RAIN + 1)"));
        edge("NOT: no WALL.", "on a new object; behind an empty text", c -> {
            c.dueEach("no WALL", NOT, noWall().first(0, 0), noWall().first(25, 9), emptied().first(1, 1));
        }, Break.in("int first(", "noWall() ? NOT :", ""));
    }

    private void leadTo() {
        under("Promise 20: leadTo");
        edge("LEAD: what = 0 the CELL, 1 how LIKE.",
                "both; the fourth LEAK, the fifth LIKENESS, the last of 25 CELLS", c -> {
            DampLikeness d = made("w5 5;l24;l24;l24;l0;f0,0,0,0,0;f0,0,0,0,0;f0,0,0,0,0;f0,0,0,0,0;f0,0,0,0,16;");
            c.due("the CELL", d.leadTo(3, 4, 1, 9, 0), 19 + 5);
            c.due("how LIKE", d.leadTo(3, 4, 1, 9, 1), 25);
            c.due("RAIN 0", d.leadTo(3, 4, 1, 0, 1), 24);
        }, Break.in("int leadTo(", "what == 0 ? trial.best : trial.bestCount", "what == 1 ? trial.best : trial.bestCount"),
                Break.in("void leadBest(", "x < plan.cells()", "x < plan.cells() - 1"),
                Break.in("int leadTo(", "outside(r, 0, MOST_RAIN)", "outside(r, 1, MOST_RAIN)"),
                Break.in("int leadTo(", "outside(r, 0, MOST_RAIN)", "outside(r, 0, MOST_RAIN - 1)"));
        edge("UNKNOWN, OUTSIDE.", "UNKNOWN: LEAK and LIKENESS, one less, one more; none; no WALL", c -> {
            DampLikeness d = made("w2 2;l0;f1,1;");
            c.dueEach("the LEAK", UNKNOWN, d.leadTo(-1, 0, 1, 1, 0), d.leadTo(1, 0, 1, 1, 0), d.leadTo(MOST, 0, 0, 0, 0));
            c.dueEach("the LIKENESS", UNKNOWN, d.leadTo(0, -1, 1, 1, 0), d.leadTo(0, 1, 1, 1, 0),
                    d.leadTo(0, LEAST, 1, 1, 2));
            c.due("no LEAK", made("w2 2;f1,1;").leadTo(0, 0, 1, 1, 0), UNKNOWN);
            c.due("no LIKENESS", made("w2 2;l0;").leadTo(0, 0, 1, 1, 0), UNKNOWN);
            c.due("no WALL", noWall().leadTo(0, 0, 1, 1, 0), UNKNOWN);
        }, Break.in("int leadTo(", "!plan.hasLeak(l) ||", ""), Break.in("int leadTo(", "|| !plan.hasFace(f)", ""));
        edge("OUTSIDE.", "DAYS 0 and 21, RAIN -1 and 10, what -1 and 2", c -> {
            DampLikeness d = made("w2 2;l0;f1,1;");
            c.dueEach("DAYS", OUTSIDE, d.leadTo(0, 0, 0, 1, 0), d.leadTo(0, 0, 21, 1, 0), d.leadTo(0, 0, LEAST, 1, 0),
                    d.leadTo(0, 0, MOST, 1, 0));
            c.dueEach("RAIN", OUTSIDE, d.leadTo(0, 0, 1, -1, 0), d.leadTo(0, 0, 1, 10, 0), d.leadTo(0, 0, 1, LEAST, 0),
                    d.leadTo(0, 0, 1, MOST, 0));
            c.dueEach("what", OUTSIDE, d.leadTo(0, 0, 1, 1, -1), d.leadTo(0, 0, 1, 1, 2), d.leadTo(0, 0, 1, 1, LEAST),
                    d.leadTo(0, 0, 1, 1, MOST));
        }, Break.in("int leadTo(", "outside(n, 1, MOST_LEAD_DAYS)", "outside(n, 0, MOST_LEAD_DAYS)"),
                Break.in("int leadTo(", "outside(n, 1, MOST_LEAD_DAYS)", "outside(n, 1, MOST_LEAD_DAYS + 1)"),
                Break.in("int leadTo(", "outside(r, 0, MOST_RAIN)", "outside(r, -1, MOST_RAIN)"),
                Break.in("int leadTo(", "outside(r, 0, MOST_RAIN)", "outside(r, 0, MOST_RAIN + 1)"),
                Break.in("int leadTo(", "outside(what, 0, 1)", "outside(what, -1, 1)"),
                Break.in("int leadTo(", "outside(what, 0, 1)", "outside(what, 0, 2)"));
    }

    private void often() {
        under("Promise 21: often");
        edge("OFTEN (m 0 .. 25)", "m 0 and 25; 25 of 25 CELLS", c -> {
            DampLikeness d = Check.painted(5, 5, "", (1 << 25) - 1);
            c.due("m 0", d.often(8, 0, 0, 0), 8);
            c.due("m 25: all still SHOW", d.often(1, 9, 25, 0), 1);
            c.due("RAIN 0, m 25", d.often(1, 0, 25, 1), 1);
        }, Break.in("int often(", "outside(m, 0, MOST_CELLS)", "outside(m, 1, MOST_CELLS)"),
                Break.in("int often(", "outside(m, 0, MOST_CELLS)", "outside(m, 0, MOST_CELLS - 1)"),
                Break.in("int often(", "outside(r, 0, MOST_RAIN)", "outside(r, 1, MOST_RAIN)"),
                Break.in("int often(", "outside(r, 0, MOST_RAIN)", "outside(r, 0, MOST_RAIN - 1)"));
        edge("what = 0 how many, 1 the DAYS; NONE.", "both; NONE by both", c -> {
            DampLikeness d = made("w2 2;l3;");
            c.due("how many", d.often(3, 1, 1, 0), 2);
            c.due("the DAYS", d.often(3, 1, 1, 1), 3);
            c.due("none by RAIN 2", d.often(1, 2, 1, 0), NONE);
            c.due("none by RAIN 2: the DAYS", d.often(1, 2, 1, 1), NONE);
        }, Break.in("int often(", "what == 0 ? trial.bestCount : trial.best", "what == 1 ? trial.bestCount : trial.best"),
                Break.in("void lookMost(", "best = NONE;", "best = 0;"),
                Break.in("void lookMost(", "bestCount = NONE;", "bestCount = 0;"));
        edge("OUTSIDE, NOT: no WALL.",
                "OUTSIDE: DAYS 0 and 9, RAIN -1 and 10, m -1 and 26, what -1 and 2; without a WALL too", c -> {
            for (DampLikeness d : new DampLikeness[] {made("w2 2;l3;"), noWall()}) {
                c.dueEach("DAYS", OUTSIDE, d.often(0, 1, 1, 0), d.often(9, 1, 1, 0), d.often(LEAST, 1, 1, 0),
                        d.often(MOST, 1, 1, 0));
                c.dueEach("RAIN", OUTSIDE, d.often(1, -1, 1, 0), d.often(1, 10, 1, 0), d.often(1, LEAST, 1, 0),
                        d.often(1, MOST, 1, 0));
                c.dueEach("m", OUTSIDE, d.often(1, 1, -1, 0), d.often(1, 1, 26, 0), d.often(1, 1, LEAST, 0),
                        d.often(1, 1, MOST, 0));
                c.dueEach("what", OUTSIDE, d.often(1, 1, 1, -1), d.often(1, 1, 1, 2), d.often(1, 1, 1, LEAST),
                        d.often(1, 1, 1, MOST));
            }
        }, Break.in("int often(", "outside(n, 1, MOST_OFTEN_DAYS)", "outside(n, 0, MOST_OFTEN_DAYS)"),
                Break.in("int often(", "outside(n, 1, MOST_OFTEN_DAYS)", "outside(n, 1, MOST_OFTEN_DAYS + 1)"),
                Break.in("int often(", "outside(r, 0, MOST_RAIN)", "outside(r, -1, MOST_RAIN)"),
                Break.in("int often(", "outside(r, 0, MOST_RAIN)", "outside(r, 0, MOST_RAIN + 1)"),
                Break.in("int often(", "outside(m, 0, MOST_CELLS)", "outside(m, -1, MOST_CELLS)"),
                Break.in("int often(", "outside(m, 0, MOST_CELLS)", "outside(m, 0, MOST_CELLS + 1)"),
                Break.in("int often(", "outside(what, 0, 1)", "outside(what, -1, 1)"),
                Break.in("int often(", "outside(what, 0, 1)", "outside(what, 0, 2)"));
        edge("NOT: no WALL.", "on a new object; behind an empty text", c -> {
            c.dueEach("no WALL", NOT, noWall().often(1, 0, 0, 0), noWall().often(8, 9, 25, 1), emptied().often(1, 0, 0, 0));
        }, Break.in("int often(", "if (noWall()) { return NOT; }", ""));
    }

    private void wasRain() {
        under("Promise 22: wasRain");
        edge("WAS RAIN.", "all ten of them, none of them", c -> {
            c.due("each RAIN: nothing SHOWS", made("w2 2;").wasRain(0), 1023);
            c.due("no RAIN", made("w2 2;").wasRain(15), 0);
        }, Break.in("int rainsThatShow(", "r <= MOST_RAIN", "r < MOST_RAIN"),
                Break.in("int rainsThatShow(", "int r = 0", "int r = 1"),
                Break.in("int rainsThatShow(", "return rains;", "return rains == 0 ? NONE : rains;"));
        edge("UNKNOWN, NOT: no WALL.", "UNKNOWN: a bit behind the last CELL, the sign's; without a WALL any bit", c -> {
            DampLikeness d = made("w2 2;");
            c.dueEach("bits", UNKNOWN, d.wasRain(16), d.wasRain(31), d.wasRain(-1), d.wasRain(LEAST), d.wasRain(MOST),
                    noWall().wasRain(1), noWall().wasRain(-1));
        }, Break.in("int wasRain(", "(set & ~plan.allCells) != 0", "(set & ~plan.allCells) > 0"),
                Break.in("int wasRain(", "(set & ~plan.allCells) != 0", "set < 0"),
                Break.atStart("int wasRain(", "if (noWall()) { return NOT; } "));
        edge("NOT: no WALL.", "on a new object; behind an empty text", c -> {
            c.dueEach("no WALL", NOT, noWall().wasRain(0), emptied().wasRain(0));
        }, Break.in("int wasRain(", "noWall() ? NOT :", ""));
    }

    private void rainToTell() {
        under("Promise 23: rainToTell");
        edge("what = 0 the RAIN, 1 how many are left.", "both", c -> {
            DampLikeness d = made("w2 2;l3;f1,0;f0,2;");
            c.due("the RAIN", d.rainToTell(0), 3);
            c.due("how many", d.rainToTell(1), 1);
        }, Break.in("int rainToTell(", "what == 0 ? trial.best : trial.bestCount",
                "what == 1 ? trial.best : trial.bestCount"));
        edge("OUTSIDE, NOT: no WALL.", "OUTSIDE: -1 and 2, far ones; without a WALL too", c -> {
            DampLikeness d = made("w2 2;l3;f1,0;");
            c.dueEach("what", OUTSIDE, d.rainToTell(-1), d.rainToTell(2), d.rainToTell(LEAST), d.rainToTell(MOST),
                    noWall().rainToTell(2), noWall().rainToTell(-1));
        }, Break.in("int rainToTell(", "outside(what, 0, 1)", "outside(what, -1, 1)"),
                Break.in("int rainToTell(", "outside(what, 0, 1)", "outside(what, 0, 2)"));
        edge("NOT: no WALL.", "on a new object; behind an empty text", c -> {
            c.dueEach("no WALL", NOT, noWall().rainToTell(0), noWall().rainToTell(1), emptied().rainToTell(0));
        }, Break.in("int rainToTell(", "if (noWall()) { return NOT; }", ""));
    }

    private void dryIn() {
        under("Promise 24: dryIn");
        edge("DRY IN; NONE.", "0 on a dry WALL; 60 DAYS are always enough, so that it is never NONE", c -> {
            c.due("dry", made("w5 5;l0;").dryIn(), 0);
            DampLikeness d = Check.painted(5, 5, "", (1 << 25) - 1);
            int days = d.dryIn();
            c.due("within 33", days >= 9 && days <= 33 ? 1 : 0, 1);
            d.day(days, 0);
            c.due("dry then", d.told(12), 0);
        }, Break.in("int daysTillDry(", "k <= MOST_DAYS", "k <= 9"), Break.in("int daysTillDry(", "int k = 0", "int k = 1"));
        edge("NOT: no WALL.", "on a new object; behind an empty text", c -> {
            c.dueEach("no WALL", NOT, noWall().dryIn(), emptied().dryIn());
        }, Break.in("int dryIn(", "noWall() ? NOT :", ""));
    }

    private void either() {
        under("Promise 25: either");
        edge("EITHER: what = 0 the CELLS, 1 how many.", "both; the first and the fifth LIKENESS, all of 25 CELLS", c -> {
            DampLikeness d = made("w5 5;f0,0,0,0,0;f0,0,0,0,0;f0,0,0,0,0;f0,0,0,0,0;f31,31,31,31,31;");
            c.due("the CELLS", d.either(0, 4, 0), (1 << 25) - 1);
            c.due("as in the first", d.either(0, 4, 1), 25);
            c.due("as in the fifth", d.either(4, 0, 1), 0);
            c.due("the same", d.either(4, 4, 0), 0);
        }, Break.in("int either(", "case 0: return unlike;", "case 0: return Integer.bitCount(unlike);"),
                Break.in("int either(", "~(now.marks() ^ face)", "(now.marks() ^ face)"));
        edge("UNKNOWN, OUTSIDE.", "UNKNOWN: either of the two, one less, one more; none; no WALL", c -> {
            DampLikeness d = made("w2 2;f1,1;");
            c.dueEach("the first", UNKNOWN, d.either(-1, 0, 0), d.either(1, 0, 0), d.either(LEAST, 0, 0),
                    d.either(MOST, 0, 2));
            c.dueEach("the second", UNKNOWN, d.either(0, -1, 0), d.either(0, 1, 0), d.either(0, LEAST, 0),
                    d.either(0, MOST, 2));
            c.due("none", made("w2 2;").either(0, 0, 0), UNKNOWN);
            c.due("no WALL", noWall().either(0, 0, 0), UNKNOWN);
        }, Break.in("int either(", "!plan.hasFace(f) ||", ""), Break.in("int either(", "|| !plan.hasFace(g)", ""));
        edge("OUTSIDE.", "what: -1 and 2, far ones", c -> {
            DampLikeness d = made("w2 2;f1,1;");
            c.dueEach("what", OUTSIDE, d.either(0, 0, -1), d.either(0, 0, 2), d.either(0, 0, LEAST), d.either(0, 0, MOST));
        }, Break.in("int either(", "default: return OUTSIDE;", "case 2: return 0; default: return OUTSIDE;"),
                Break.in("int either(", "default: return OUTSIDE;", "case -1: return 0; default: return OUTSIDE;"));
    }

    private void rainy() {
        under("Promise 26: rainy");
        edge("RAINY.", "with a WALL and without one", c -> {
            c.due("a WALL", made("w2 2;").rainy(2, 50), 250000000);
            c.due("no WALL", noWall().rainy(2, 50), 250000000);
        }, Break.atStart("int rainy(", "if (noWall()) { return NOT; } "),
                Break.atStart("int rainy(", "if (!noWall()) { return NOT; } "));
        edge("OUTSIDE.", "DAYS -1 and 61, of a hundred -1 and 101", c -> {
            DampLikeness d = noWall();
            c.dueEach("DAYS", OUTSIDE, d.rainy(-1, 50), d.rainy(61, 50), d.rainy(LEAST, 50), d.rainy(MOST, 50));
            c.dueEach("of a hundred", OUTSIDE, d.rainy(1, -1), d.rainy(1, 101), d.rainy(0, LEAST), d.rainy(0, MOST));
        }, Break.in("int rainy(", "outside(n, 0, MOST_DAYS)", "outside(n, -1, MOST_DAYS)"),
                Break.in("int rainy(", "outside(n, 0, MOST_DAYS)", "outside(n, 0, MOST_DAYS + 1)"),
                Break.in("int rainy(", "outside(q, 0, 100)", "outside(q, -1, 100)"),
                Break.in("int rainy(", "outside(q, 0, 100)", "outside(q, 0, 101)"));
    }
}
