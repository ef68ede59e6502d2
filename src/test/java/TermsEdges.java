/** "Terms", ahead of its sections: numbers, sets, refusals. */
final class TermsEdges extends Edges {
    private static final String NO_WALL = "if (noWall()) { return NOT; } ";

    TermsEdges() {
        under("Terms");
        numbers();
        orderOfRefusals();
        whatIsRefused();
        refusedChangesNothing();
    }

    private static int constant(String name) {
        try {
            // by reflection, as javac would copy the number into this class
            return DampLikeness.class.getField(name).getInt(null);
        } catch (ReflectiveOperationException none) {
            throw new IllegalStateException(none);
        }
    }

    private void numbers() {
        edge("/ cuts towards 0.", "10 times 1 / 100 is 0", c -> {
            c.due("rainy(4, 1)", noWall().rainy(4, 1), 10);
            c.due("rainy(5, 1)", noWall().rainy(5, 1), 0);
        }, Break.in("int rainy(", "odds * q / 100", "(odds * q + 99) / 100"));
        edge("What has a number has it from 0 on, as it comes.", "the first has 0, the last one less than there are", c -> {
            DampLikeness d = made("w2 2;l3;l1;c1 0;c2 3;f1,2;f3,0;");
            c.due("leak(0)", d.leak(0), 3);
            c.due("leak(1)", d.leak(1), 1);
            c.due("crack(0, 0)", d.crack(0, 0), 1);
            c.due("crack(1, 0)", d.crack(1, 0), 2);
            c.due("likeness(0, 0)", d.likeness(0, 0), 9);
            c.due("likeness(1, 0)", d.likeness(1, 0), 3);
            c.dueEach("behind the last", UNKNOWN, d.leak(2), d.crack(2, 0), d.likeness(2, 0));
        }, Break.in("boolean hasLeak(", "l < leakCount", "l <= leakCount"),
                Break.in("boolean hasCrack(", "c < crackCount", "c <= crackCount"),
                Break.in("boolean hasFace(", "f < faceCount", "f <= faceCount"),
                Break.in("boolean hasLeak(", "l >= 0", "l >= 1"));
        edge("A SET is a whole number, bit k for k", "bit 0 for the first CELL, bit 24 for the last of 25", c -> {
            DampLikeness d = made("w5 5;l20;l24;f1,0,0,0,16;");
            c.due("likeness(0, 0)", d.likeness(0, 0), 1 << 24 | 1);
            d.day(1, 3);
            c.due("told(8)", d.told(8), 1 << 24 | 1 << 20);
            c.due("shown(1, 9) of the first", made("w5 5;l0;").shown(1, 9), 1);
        }, Break.in("int marks()", "1 << x", "2 << x"));
        edge("NONE is -1.", "the constant, and an answer that is NONE", c -> {
            c.due("NONE", constant("NONE"), -1);
            c.due("fault() of a new object", noWall().fault(), -1);
        }, Break.of("NONE = -1", "NONE = -2"));
        edge("They are far below all that is counted: -1000000001 and on.", "UNKNOWN, OUTSIDE, NOT, FULL, one by one", c -> {
            c.due("UNKNOWN", constant("UNKNOWN"), -1000000001);
            c.due("OUTSIDE", constant("OUTSIDE"), -1000000002);
            c.due("NOT", constant("NOT"), -1000000003);
            c.due("FULL", constant("FULL"), -1000000004);
        }, Break.of("UNKNOWN = -1000000001", "UNKNOWN = -1000000000"), Break.of("OUTSIDE = -1000000002", "OUTSIDE = -2"),
                Break.of("NOT = -1000000003", "NOT = -3"), Break.of("FULL = -1000000004", "FULL = -1000000005"));
        edge("BILLION is 1000000000.", "what is certain, and no DAYS at all", c -> {
            c.due("rainy(60, 100)", noWall().rainy(60, 100), 1000000000);
            c.due("rainy(0, 0)", noWall().rainy(0, 0), 1000000000);
        }, Break.of("BILLION = 1000000000", "BILLION = 999999999"));
    }

    private void orderOfRefusals() {
        edge("of several the first in this order: UNKNOWN", "UNKNOWN ahead of OUTSIDE", c -> {
            DampLikeness d = made("w2 2;l0;c0 1;f1,1;");
            c.due("crack(1, 3)", d.crack(1, 3), UNKNOWN);
            c.due("likeness(1, 3)", d.likeness(1, 3), UNKNOWN);
            c.due("leadTo(1, 0, 0, 10, 2)", d.leadTo(1, 0, 0, 10, 2), UNKNOWN);
            c.due("leadTo(0, 1, 21, -1, -1)", d.leadTo(0, 1, 21, -1, -1), UNKNOWN);
            c.due("either(0, 1, 2)", d.either(0, 1, 2), UNKNOWN);
            c.due("write(4, 10)", d.write(4, 10), UNKNOWN);
        }, Break.atStart("int crack(", "if (outside(what, 0, 2)) { return OUTSIDE; } "),
                Break.atStart("int likeness(", "if (outside(what, 0, 2)) { return OUTSIDE; } "),
                Break.atStart("int leadTo(", "if (outside(what, 0, 1)) { return OUTSIDE; } "),
                Break.atStart("int leadTo(", "if (outside(n, 1, 20)) { return OUTSIDE; } "),
                Break.atStart("int either(", "if (outside(what, 0, 1)) { return OUTSIDE; } "),
                Break.atStart("int write(", "if (outside(wet, 0, 9)) { return OUTSIDE; } "));
        edge("UNKNOWN (a CELL, LEAK, CRACK, LIKENESS, IMAGE that there is not; bits of such), OUTSIDE "
                + "(another number out of its bounds), NOT", "UNKNOWN ahead of NOT", c -> {
            c.due("no WALL: wasRain(1)", noWall().wasRain(1), UNKNOWN);
            c.due("none kept: goBack(2)", made("w2 2;").goBack(2), UNKNOWN);
            c.due("none kept: goBack(-1)", made("w2 2;").goBack(-1), UNKNOWN);
        }, Break.atStart("int wasRain(", NO_WALL), Break.in("int goBack(", "return UNKNOWN;", "return NOT;"));
        edge("OUTSIDE (another number out of its bounds), NOT", "OUTSIDE ahead of NOT", c -> {
            c.due("no WALL: day(0, 0)", noWall().day(0, 0), OUTSIDE);
            c.due("no WALL: wind(3)", noWall().wind(3), OUTSIDE);
            c.due("no WALL: drift(61)", noWall().drift(61), OUTSIDE);
            c.due("no WALL: shown(0, 10)", noWall().shown(0, 10), OUTSIDE);
            c.due("no WALL: first(26, 0)", noWall().first(26, 0), OUTSIDE);
            c.due("no WALL: often(1, 0, 0, 2)", noWall().often(1, 0, 0, 2), OUTSIDE);
            c.due("no WALL: rainToTell(2)", noWall().rainToTell(2), OUTSIDE);
        }, Break.atStart("int day(", NO_WALL), Break.atStart("int wind(", NO_WALL), Break.atStart("int drift(", NO_WALL),
                Break.atStart("int shown(", NO_WALL), Break.atStart("int first(", NO_WALL),
                Break.atStart("int often(", NO_WALL), Break.atStart("int rainToTell(", NO_WALL));
        // NOT and FULL never meet: without a WALL there are no DAYS and no BOOK
        edge("NOT (not now, as told), FULL.", "UNKNOWN and OUTSIDE ahead of FULL", c -> {
            DampLikeness letters = Check.fed(blanks(240));
            c.due("240 letters: feed(256)", letters.feed(256), OUTSIDE);
            DampLikeness old = old();
            old.day(1, 0);
            c.due("9001 DAYS: day(61, 0)", old.day(61, 0), OUTSIDE);
            c.due("9001 DAYS: day(1, 10)", old.day(1, 10), OUTSIDE);
            c.due("9001 DAYS: drift(0)", old.drift(0), OUTSIDE);
            for (int k = 0; k < 15; k++) {
                old.write(0, 0);
            }
            c.due("15 entries: write(0, 10)", old.write(0, 10), OUTSIDE);
            c.due("15 entries: write(4, 0)", old.write(4, 0), UNKNOWN);
        }, Break.atStart("int feed(", "if (reader.count >= 240) { return FULL; } "),
                Break.atStart("int day(", "if (now.days > FULL_DAYS) { return FULL; } "),
                Break.atStart("int drift(", "if (now.days > FULL_DAYS) { return FULL; } "),
                Break.atStart("int write(", "if (book.count >= 15) { return FULL; } "),
                Break.in("int write(", "return outside", "if (book.count >= 15) { return FULL; } return outside"));
    }

    private void whatIsRefused() {
        edge("UNKNOWN (a CELL", "one less than the first CELL, one more than the last", c -> {
            DampLikeness d = made("w2 3;l0;");
            c.dueEach("cell(-1), cell(6), far ones", UNKNOWN, d.cell(-1), d.cell(6), d.cell(LEAST), d.cell(MOST));
            c.dueEach("brush, lead, write", UNKNOWN, d.brush(-1), d.brush(6), d.lead(0, -1), d.lead(0, 6),
                    d.write(-1, 0), d.write(6, 0));
            c.dueEach("cell(0), cell(5)", 0, d.cell(0), d.cell(5));
        }, Break.in("boolean hasCell(", "x < cells()", "x <= cells()"), Break.in("boolean hasCell(", "x >= 0 &&", ""));
        edge("LEAK, CRACK, LIKENESS, IMAGE that there is not", "one less than the first, one more than the last", c -> {
            DampLikeness d = made("w2 2;l0;c0 1;f1,1;");
            c.dueEach("LEAK", UNKNOWN, d.leak(-1), d.leak(1), d.lead(-1, 0), d.lead(1, 0), d.leadTo(-1, 0, 1, 1, 0),
                    d.leadTo(1, 0, 1, 1, 0));
            c.dueEach("CRACK", UNKNOWN, d.crack(-1, 0), d.crack(1, 0), d.fill(-1, true), d.fill(1, true));
            c.dueEach("LIKENESS", UNKNOWN, d.likeness(-1, 0), d.likeness(1, 0), d.either(-1, 0, 0), d.either(0, 1, 0),
                    d.leadTo(0, -1, 1, 1, 0), d.leadTo(0, 1, 1, 1, 0));
            c.dueEach("IMAGE", UNKNOWN, d.keep(-1), d.keep(2), d.goBack(-1), d.goBack(2));
        }, Break.in("boolean hasLeak(", "l < leakCount", "l <= leakCount"), Break.in("boolean hasLeak(", "l >= 0 &&", ""),
                Break.in("boolean hasCrack(", "c < crackCount", "c < 6"), Break.in("boolean hasCrack(", "c >= 0 &&", ""),
                Break.in("boolean hasFace(", "f < faceCount", "f < 5"), Break.in("boolean hasFace(", "f >= 0 &&", ""),
                Break.of("IMAGES = 2", "IMAGES = 3"));
        edge("bits of such", "the bit behind the last CELL, and the sign's", c -> {
            DampLikeness d = made("w2 3;");
            c.dueEach("wasRain of no CELL", UNKNOWN, d.wasRain(64), d.wasRain(65), d.wasRain(-1), d.wasRain(LEAST));
            c.due("wasRain(63)", d.wasRain(63), 0);
            c.due("25 CELLS: wasRain(bit 24)", made("w5 5;").wasRain(1 << 24), 0);
            c.due("25 CELLS: wasRain(bit 25)", made("w5 5;").wasRain(1 << 25), UNKNOWN);
        }, Break.in("void resize(", "(1 << (h * w)) - 1", "(2 << (h * w)) - 1"),
                Break.in("int wasRain(", "(set & ~plan.allCells) != 0", "(set & ~plan.allCells) > 0"));
        edge("OUTSIDE (another number out of its bounds)", "each \"what\" is no CELL, LEAK or the like", c -> {
            DampLikeness d = made("w2 2;l0;c0 1;f1,1;");
            c.dueEach("one too small", OUTSIDE, d.told(-1), d.crack(0, -1), d.likeness(0, -1), d.leadTo(0, 0, 1, 1, -1),
                    d.often(1, 1, 1, -1), d.rainToTell(-1), d.either(0, 0, -1));
            c.dueEach("one too large", OUTSIDE, d.told(21), d.crack(0, 3), d.likeness(0, 3), d.leadTo(0, 0, 1, 1, 2),
                    d.often(1, 1, 1, 2), d.rainToTell(2), d.either(0, 0, 2));
        }, Break.in("int told(", "default: return OUTSIDE;", "default: return UNKNOWN;"),
                Break.in("int crack(", "default: return OUTSIDE;", "default: return UNKNOWN;"),
                Break.in("int leadTo(", "outside(what, 0, 1)", "outside(what, 0, 2)"),
                Break.in("int often(", "outside(what, 0, 1)", "outside(what, -1, 1)"));
        edge("NOT (not now, as told)", "each call that needs a WALL, on a new object", c -> {
            DampLikeness d = noWall();
            c.dueEach("no WALL", NOT, d.day(1, 0), d.look(), d.wind(0), d.drift(1), d.undo(), d.shown(0, 0), d.first(0, 0),
                    d.often(1, 0, 0, 0), d.wasRain(0), d.rainToTell(0), d.dryIn(), d.goBack(0));
        }, Break.in("boolean noWall(", "plan.cells() == 0", "false"),
                Break.in("int goBack(", "if (!image.kept) { return NOT; }", ""),
                Break.in("int undo(", "past.pop(now) ? past.count : NOT", "past.pop(now) ? past.count : NONE"));
    }

    private void refusedChangesNothing() {
        edge("What is refused changes nothing.", "what is UNKNOWN", c -> {
            DampLikeness d = lived();
            String ahead = Check.all(d);
            c.dueEach("refused", UNKNOWN, d.brush(9), d.lead(2, 0), d.lead(0, 9), d.fill(3, true), d.write(9, 0),
                    d.keep(2), d.goBack(2), d.leadTo(2, 0, 1, 1, 0), d.wasRain(512), d.either(4, 0, 0));
            c.dueText("all of it", Check.all(d), ahead);
            c.due("undo() still", d.undo(), 1);
        }, pushFirst("int brush(", "if (!plan.hasCell(x)) { return UNKNOWN; }"),
                pushFirst("int lead(int l", "if (!plan.hasLeak(l) || !plan.hasCell(x)) { return UNKNOWN; }"),
                pushFirst("int fill(", "if (!plan.hasCrack(c)) { return UNKNOWN; }"),
                Break.atStart("int keep(", "past.clear(); "), Break.atStart("int goBack(", "past.clear(); "));
        edge("What is refused changes nothing.", "what is OUTSIDE", c -> {
            DampLikeness d = lived();
            String ahead = Check.all(d);
            c.dueEach("refused", OUTSIDE, d.feed(256), d.day(61, 5), d.day(1, 10), d.wind(3), d.drift(61), d.write(0, 10),
                    d.seed(-1), d.shown(61, 9), d.first(26, 9), d.often(9, 9, 1, 0), d.rainy(61, 1));
            c.due("THE SEED", d.seed(12), 12);
            c.dueText("all of it", Check.all(d), ahead);
            c.due("undo() still", d.undo(), 1);
        }, Break.in("int feed(", "outside(letter, 0, 255) ? OUTSIDE : reader.add(letter)",
                        "reader.add(letter) > 0 && outside(letter, 0, 255) ? OUTSIDE : reader.count"),
                Break.atStart("int day(", "past.push(now); "), Break.atStart("int wind(", "past.push(now); "),
                Break.atStart("int drift(", "past.push(now); "), Break.atStart("int seed(", "draws.state = 1; "),
                Break.atStart("int write(", "book.add(x, wet); "));
        edge("What is refused changes nothing.", "what can NOT be now", c -> {
            DampLikeness d = noWall();
            d.seed(5);
            String ahead = Check.all(d);
            c.dueEach("refused", NOT, d.day(1, 9), d.look(), d.wind(1), d.drift(9), d.undo(), d.goBack(1), d.shown(1, 9));
            c.dueText("all of it", Check.all(d), ahead);
        }, Break.atStart("int look(", "now.looks++; "), Break.atStart("int drift(", "draws.draw(6); "),
                Break.atStart("int wind(", "now.wind = n; "),
                Break.in("int goBack(", "if (!image.kept) {", "draws.state = image.drawState; if (!image.kept) {"));
        edge("What is refused changes nothing.", "what is FULL", c -> {
            DampLikeness d = old();
            d.drift(1);
            for (int k = 0; k < 15; k++) {
                d.write(0, 0);
            }
            String ahead = Check.all(d);
            c.dueEach("refused", FULL, d.day(1, 9), d.drift(1), d.write(0, 1));
            c.dueText("all of it", Check.all(d), ahead);
            c.due("undo()", d.undo(), 15);
            c.due("DAYS ahead of the latest that was done", d.told(6), 9000);
            DampLikeness fed = Check.fed(blanks(240));
            c.due("feed(119)", fed.feed(119), FULL);
            c.due("letters", fed.told(5), 240);
            c.due("they are still blanks alone", fed.wall(), 0);
        }, pushFirst("int day(", "if (now.days > FULL_DAYS) { return FULL; }"),
                Break.in("int drift(", "if (now.days", "draws.draw(10); if (now.days"),
                Break.in("int add(int x, int wet)", "if (count >= MOST_ENTRIES) {",
                        "put(wets, 14, wet); if (count >= MOST_ENTRIES) {"),
                Break.in("int add(int letter)", "return FULL;", "count = 0; return FULL;"));
    }

    private static Break pushFirst(String head, String refusal) {
        return Break.in(head, refusal, "past.push(now); " + refusal);
    }
}
