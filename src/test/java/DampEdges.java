/** "Terms", section 2: how wet, a day, a look, a brush and the like. */
final class DampEdges extends Edges {
    DampEdges() {
        under("Terms, section 2");
        wetness();
        running();
        cracks();
        drying();
        looking();
        others();
    }

    private void wetness() {
        edge("A CELL is WET by 0 (at first)", "each CELL of a new WALL", c -> {
            c.cells("new", made("w2 2;l0;"), 0, 0, 0, 0);
            c.due("ALL WET of 25", made("w5 5;l0;").told(12), 0);
        }, Break.in("void begin(", "wet[x] = 0;", "wet[x] = 1;"));
        edge("(at first) to 9", "9 and more rain", c -> {
            c.afterDay("w2 2;l3;", 1, 9, 0, 0, 0, 9);
            c.afterDay("w2 2;l3;", 60, 9, 0, 0, 0, 9);
            c.afterDay("w2 2;l3;", 60, 1, 0, 0, 0, 9);
        }, Break.of("MOST_WET = 9", "MOST_WET = 10"), Break.of("MOST_WET = 9", "MOST_WET = 8"));
        edge("it SHOWS a MARK, if that is 3 or more", "2 is none, 3 is one", c -> {
            DampLikeness d = made("w2 2;l3;");
            c.due("day(1, 2)", d.day(1, 2), 0);
            c.due("what SHOWS", d.told(8), 0);
            c.due("day(1, 1)", d.day(1, 1), 1);
            c.due("what SHOWS", d.told(8), 8);
        }, Break.of("MARK = 3", "MARK = 2"), Break.of("MARK = 3", "MARK = 4"));
        edge("A DAY of RAIN n (0 .. 9)", "RAIN 0 and RAIN 9", c -> {
            c.afterDay("w2 2;l3;", 1, 0, 0, 0, 0, 0);
            c.afterDay("w2 2;l3;", 1, 9, 0, 0, 0, 9);
        }, Break.of("MOST_RAIN = 9", "MOST_RAIN = 8"),
                Break.in("int day(", "outside(r, 0, MOST_RAIN)", "outside(r, 1, MOST_RAIN)"));
        edge("each LEAK makes its CELL", "each of four at one CELL, and of two at two", c -> {
            c.afterDay("w2 2;l3;l3;l3;l3;", 1, 2, 0, 0, 0, 8);
            c.afterDay("w2 2;l2;l3;", 1, 2, 0, 0, 2, 2);
        }, Break.in("void rainDay(", "l < plan.leakCount", "l < 1"),
                Break.in("void rainDay(", "l < plan.leakCount", "l < 3"));
        edge("n more WET (9 at most).", "rain is cut ahead of the running", c -> {
            c.afterDay("w2 2;l0;l0;", 1, 5, 8, 0, 1, 0);
            c.afterDay("w2 2;l0;l0;l0;l0;", 1, 9, 8, 0, 1, 0);
        }, Break.in("void rainDay(", "Math.min(MOST_WET, pick(damp.wet, x) + rain)", "pick(damp.wet, x) + rain"));
    }

    private void running() {
        edge("by what CELLS are WET ahead of it", "what comes on a DAY does not run on that DAY", c -> {
            c.afterDay("w3 2;l0;l0;l2;", 1, 1, 1, 0, 2, 0, 0, 0);
            c.afterDay("w3 2;l0;", 2, 9, 8, 0, 2, 0, 0, 0);
        }, Break.in("void runDownAndByWind(", "ahead[x] >= 2", "damp.wet[x] + come[x] >= 2"));
        edge("each CELL gives 1, as long as it has 1 left of that", "2 are left for two, not for a third", c -> {
            c.afterDay("w2 2;l0;c0 1;c0 2;", 1, 2, 0, 1, 1, 0);
            c.afterDay("w2 2;l0;c0 1;c0 2;", 1, 3, 0, 1, 2, 0);
        }, Break.in("void give(", "&& pick(damp.wet, from) > 0", ""), Break.in("void give(", "> 0", "> 1"));
        edge("to the CELL below, if there is one", "the lowest ROW gives to none", c -> {
            c.afterDay("w2 2;l2;", 1, 9, 0, 0, 9, 0);
            c.afterDay("w5 2;l8;l9;", 1, 9, 0, 0, 0, 0, 0, 0, 0, 0, 9, 9);
        }, Break.in("int below(", "x + columns < cells() ? x + columns : NONE", "(x + columns) % cells()"));
        edge("and it is WET by 2 or more", "1 stays, of 2 one runs", c -> {
            c.afterDay("w2 2;l0;", 1, 1, 1, 0, 0, 0);
            c.afterDay("w2 2;l0;", 1, 2, 1, 0, 1, 0);
        }, Break.in("void runDownAndByWind(", "ahead[x] >= 2", "ahead[x] >= 1"),
                Break.in("void runDownAndByWind(", "ahead[x] >= 2", "ahead[x] >= 3"));
        edge("by WIND to the CELL beside, if there is one", "at both ends of a ROW it gives to none", c -> {
            c.afterDay("w2 3;l3;n1;", 1, 9, 0, 0, 0, 9, 0, 0);
            c.afterDay("w2 3;l2;n2;", 1, 9, 0, 0, 8, 0, 0, 1);
            c.afterDay("w2 3;l5;n2;", 1, 9, 0, 0, 0, 0, 0, 9);
        }, Break.in("int beside(", "columnOf(x) > 0", "x > 0"),
                Break.in("int beside(", "columnOf(x) + 1 < columns", "x + 1 < cells()"));
        edge("and it is WET by 4 or more", "of 3 none goes with the WIND, of 4 one", c -> {
            c.afterDay("w2 2;l2;n2;", 1, 3, 0, 0, 3, 0);
            c.afterDay("w2 2;l2;n2;", 1, 4, 0, 0, 3, 1);
        }, Break.in("void runDownAndByWind(", "ahead[x] >= 4", "ahead[x] >= 3"),
                Break.in("void runDownAndByWind(", "ahead[x] >= 4", "ahead[x] >= 5"));
        edge("What comes to a CELL makes it 9 at most.", "9 and one more from above, and one more from beside", c -> {
            c.afterDay("w2 2;l0;l2;", 1, 9, 8, 0, 9, 0);
            c.afterDay("w2 2;l1;l2;l3;n2;", 1, 9, 0, 8, 8, 9);
        }, Break.in("void settle(", "Math.min(MOST_WET, pick(damp.wet, x) + come[x])", "pick(damp.wet, x) + come[x]"));
    }

    private void cracks() {
        edge("by each CRACK that is not filled", "one that is filled gives nothing, another one does", c -> {
            DampLikeness d = made("w2 2;l0;c0 1;c0 2;");
            d.fill(0, true);
            d.day(1, 4);
            c.cells("the first is filled", d, 2, 0, 2, 0);
        }, Break.in("void runByCracks(", "if (damp.isFilled(c)) { continue; }", ""),
                Break.in("void runByCracks(", "if (damp.isFilled(c)) { continue; }", "if (damp.filled != 0) { continue; }"));
        edge("as these come", "what is left goes by the CRACK that was told first", c -> {
            c.afterDay("w2 2;l0;c0 1;c0 2;", 1, 2, 0, 1, 1, 0);
            c.afterDay("w2 2;l0;c0 2;c0 1;", 1, 2, 0, 0, 2, 0);
        }, Break.in("void runByCracks(", "int c = 0; c < plan.crackCount; c++", "int c = plan.crackCount - 1; c >= 0; c--"));
        edge("if it is WET by 2 more than that one or more", "1 more gives none, 2 more give 1, from A and from B", c -> {
            c.afterDay("w2 2;l2;c2 3;", 1, 1, 0, 0, 1, 0);
            c.afterDay("w2 2;l2;c2 3;", 1, 2, 0, 0, 1, 1);
            c.afterDay("w2 2;l3;c2 3;", 1, 1, 0, 0, 0, 1);
            c.afterDay("w2 2;l3;c2 3;", 1, 2, 0, 0, 1, 1);
            c.afterDay("w2 2;l2;l3;l3;c2 3;", 1, 1, 0, 0, 1, 2);
            c.afterDay("w2 2;l2;l3;l3;c2 3;", 1, 2, 0, 0, 3, 3);
        }, Break.in("void runByCracks(", "more >= 2", "more >= 1"), Break.in("void runByCracks(", "more >= 2", "more >= 3"),
                Break.in("void runByCracks(", "more <= -2", "more <= -1"),
                Break.in("void runByCracks(", "more <= -2", "more <= -3"));
    }

    private void drying() {
        edge("If RAIN is 0, each CELL is 1 less", "RAIN 0 dries, RAIN 1 does not", c -> {
            DampLikeness d = made("w2 2;l3;");
            d.day(1, 9);
            d.lead(0, 2);
            d.day(1, 0);
            c.cells("RAIN 0", d, 0, 0, 0, 8);
            d.day(1, 1);
            c.cells("RAIN 1", d, 0, 0, 1, 8);
        }, Break.in("void rainDay(", "rain == 0 ? 1 : 0", "rain <= 1 ? 1 : 0"),
                Break.in("void rainDay(", "rain == 0 ? 1 : 0", "0"));
        edge("is 1 less then", "behind the running: of 2 one still runs down", c -> {
            DampLikeness d = made("w2 2;l0;");
            d.day(1, 3);
            c.cells("RAIN 3", d, 2, 0, 1, 0);
            d.day(1, 0);
            c.cells("RAIN 0", d, 0, 0, 1, 0);
        }, Break.in("void rainDay(", "System.arraycopy(", "for (int x = 0; rain == 0 && x < MOST_CELLS; x++) { "
                + "damp.wet[x] = Math.max(0, damp.wet[x] - 1); } rain = Math.max(1, rain); System.arraycopy("));
        edge("(0 at least)", "what is dry stays at 0", c -> {
            c.afterDay("w2 2;l3;", 3, 0, 0, 0, 0, 0);
            DampLikeness d = made("w2 2;l3;");
            d.day(1, 1);
            d.day(1, 0);
            c.cells("1 is dried", d, 0, 0, 0, 0);
            c.due("ALL WET", d.told(12), 0);
        }, Break.in("void settle(", "Math.max(0, wet - dried)", "wet - dried"));
        edge("DAYS are counted from 0.", "none, one, 61", c -> {
            DampLikeness d = made("w2 2;");
            c.due("DAYS", d.told(6), 0);
            d.day(1, 0);
            c.due("DAYS", d.told(6), 1);
            d.day(60, 9);
            c.due("DAYS", d.told(6), 61);
            d.drift(2);
            c.due("DAYS", d.told(6), 63);
        }, Break.in("void begin(", "days = 0;", "days = 1;"), Break.in("void rainDay(", "damp.days++;", ""));
    }

    private void looking() {
        edge("LOOKED: it is shy: of all CELLS that SHOW", "2 does not SHOW: it stays", c -> {
            DampLikeness d = made("w2 2;l3;");
            d.day(1, 2);
            d.look();
            c.cells("2, LOOKED at", d, 0, 0, 0, 2);
        }, Break.in("int lonely(", "marks & ~two", "plan.allCells & ~two"));
        edge("those with fewer than two that SHOW", "none and one are fewer, two are not", c -> {
            DampLikeness alone = made("w2 2;l3;");
            alone.day(1, 9);
            alone.look();
            c.cells("none", alone, 0, 0, 0, 7);
            DampLikeness pair = made("w2 2;l2;l3;");
            pair.day(1, 9);
            pair.look();
            c.cells("one", pair, 0, 0, 7, 7);
            DampLikeness square = made("w2 2;l0;l1;l2;l3;");
            square.day(1, 9);
            square.look();
            c.cells("two", square, 8, 8, 9, 9);
            DampLikeness ends = Check.painted(5, 5, "", Check.set(0, 24));
            int first = ends.cell(0);
            int last = ends.cell(24);
            ends.look();
            c.due("none, the first CELL", ends.cell(0), first - 2);
            c.due("none, the last of 25", ends.cell(24), last - 2);
            DampLikeness two = Check.painted(3, 4, "", Check.set(0, 1));
            first = two.cell(0);
            two.look();
            c.due("one, the first CELL", two.cell(0), first - 2);
        }, Break.in("int lonely(", "marks & ~two", "marks & ~one"), Break.in("int lonely(", "marks & ~two", "marks"),
                Break.in("int lonely(", "marks & ~two", "one & marks & ~two"),
                Break.in("void shrink(", "int x = 0", "int x = 1"),
                Break.in("void shrink(", "x < wet.length", "x < wet.length - 1"));
        edge("beside, above, below them", "each of the four sides counts", c -> {
            for (int[] two : new int[][] {{5, 7}, {2, 10}, {2, 5}, {7, 10}, {5, 10}, {2, 7}}) {
                DampLikeness d = Check.painted(3, 4, "", Check.set(6, two[0], two[1]));
                int ahead = d.cell(6);
                d.look();
                c.due("two beside 6: " + two[0] + ", " + two[1], d.cell(6), ahead);
            }
        }, Break.in("int besideSet(", "case 0: return (set << plan.columns) & plan.allCells;", "case 0: return 0;"),
                Break.in("int besideSet(", "case 1: return set >> plan.columns;", "case 1: return 0;"),
                Break.in("int besideSet(", "case 2: return (set << 1) & plan.allCells & ~plan.firstColumn;",
                        "case 2: return 0;"),
                Break.in("int besideSet(", "default: return (set & ~plan.firstColumn) >> 1;", "default: return 0;"));
        edge("fewer than two that SHOW beside, above, below them",
                "one across, one behind the end of a ROW are not beside", c -> {
            DampLikeness across = Check.painted(3, 4, "", Check.set(0, 2, 5, 8, 10));
            int middle = across.cell(5);
            across.look();
            c.due("four across", across.cell(5), middle - 2);
            DampLikeness ends = Check.painted(3, 4, "", Check.set(2, 3, 4, 5));
            int last = ends.cell(3);
            int first = ends.cell(4);
            ends.look();
            c.due("the end of a ROW", ends.cell(3), last - 2);
            c.due("the start of the next", ends.cell(4), first - 2);
        }, Break.in("int besideSet(", "& plan.allCells & ~plan.firstColumn", "& plan.allCells"),
                Break.in("int besideSet(", "(set & ~plan.firstColumn) >> 1", "set >> 1"),
                Break.in("int lonely(", "besideSet(plan, marks, side)", "besideSet(plan, marks, side)"
                        + " | besideSet(plan, besideSet(plan, marks, side), side < 2 ? 2 : 0)"));
        edge("are 2 less WET", "3 becomes 1", c -> {
            DampLikeness d = made("w2 2;l3;");
            d.day(1, 3);
            c.due("look()", d.look(), 0);
            c.cells("3, LOOKED at", d, 0, 0, 0, 1);
        }, Break.in("void shrink(", "wet[x] -= 2", "wet[x] -= 3"), Break.in("void shrink(", "wet[x] -= 2", "wet[x] -= 1"));
        edge("(by what SHOWS ahead of it)", "of three in a ROW the middle one stays", c -> {
            DampLikeness d = made("w2 3;l3;l4;l5;");
            d.day(1, 3);
            c.due("look()", d.look(), 1);
            c.cells("three, LOOKED at", d, 0, 0, 0, 1, 3, 1);
        }, Break.in("void shrink(", "(lonely >> x)", "(Marks.lonely(plan, marks()) >> x)"));
    }

    private void others() {
        edge("BRUSHED: a CELL is WET by 0.", "one of 9, one of 0; no other CELL", c -> {
            DampLikeness d = made("w2 2;l2;l3;");
            d.day(1, 9);
            d.brush(3);
            d.brush(0);
            c.cells("BRUSHED", d, 0, 0, 9, 0);
        }, Break.in("int brush(", "put(now.wet, x, 0)", "put(now.wet, x, was - 8)"),
                Break.in("int brush(", "put(now.wet, x, 0)", "put(now.wet, x, Math.max(0, was - 8))"));
        edge("LED: a LEAK is at another CELL.", "the last CELL, one with a LEAK, the same again; no other LEAK", c -> {
            DampLikeness d = made("w2 2;l0;l3;");
            d.lead(0, 3);
            d.lead(0, 3);
            c.due("leak(0)", d.leak(0), 3);
            c.due("leak(1)", d.leak(1), 3);
            d.day(1, 3);
            c.cells("both at the last CELL", d, 0, 0, 0, 6);
        }, Break.in("int lead(int l", "put(now.leakAt, l, x);", ""),
                Break.in("int lead(int l", "put(now.leakAt, l, x);", "put(now.leakAt, l, was == x ? 0 : x);"));
        edge("WIND: it is another.", "from each to each, to the same too", c -> {
            for (int from = 0; from <= 2; from++) {
                for (int to = 0; to <= 2; to++) {
                    DampLikeness d = made("w2 3;l4;n" + from + ";");
                    d.wind(to);
                    c.due("WIND", d.told(7), to);
                    d.day(1, 4);
                    c.cells(from + " to " + to, d, 0, 0, 0, to == 1 ? 1 : 0, to == 0 ? 4 : 3, to == 2 ? 1 : 0);
                }
            }
        }, Break.in("int wind(", "now.wind = n;", ""),
                Break.in("int wind(", "now.wind = n;", "now.wind = was == n ? 0 : n;"));
        edge("FILLED: a CRACK, or open again.", "filled twice, opened twice; no other CRACK", c -> {
            DampLikeness d = made("w2 2;c0 1;c1 3;c0 2;");
            d.fill(1, true);
            d.fill(1, true);
            c.due("filled ones", d.told(9), 2);
            d.fill(2, true);
            d.fill(1, false);
            d.fill(1, false);
            c.due("filled ones", d.told(9), 4);
        }, Break.in("int fill(", "now.filled | (1 << c)", "now.filled ^ (1 << c)"),
                Break.in("int fill(", "now.filled & ~(1 << c)", "now.filled ^ (1 << c)"),
                Break.in("int fill(", "now.filled & ~(1 << c)", "0"));
        edge("LOOKS and BRUSHES are counted.", "at what does not SHOW, at what is dry too; by drift() too", c -> {
            DampLikeness d = made("w2 2;");
            c.due("LOOKS at first", d.told(10), 0);
            c.due("BRUSHES at first", d.told(11), 0);
            d.look();
            d.brush(0);
            d.brush(0);
            c.due("LOOKS", d.told(10), 1);
            c.due("BRUSHES", d.told(11), 2);
            d.seed(TriedEdges.seedFor(0));
            d.drift(1);
            c.due("LOOKS behind a DAY that is LOOKED at", d.told(10), 2);
        }, Break.in("void shrink(", "looks++;", "looks += lonely != 0 ? 1 : 0;"),
                Break.in("int brush(", "now.brushes++;", "now.brushes += was > 0 ? 1 : 0;"),
                Break.in("void driftOneDay(", "now.shrink(plan);", "now.shrink(plan); now.looks--;"));
    }
}
