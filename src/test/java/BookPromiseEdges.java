/** Promises 27 to 32: the book, the seed, the images. */
final class BookPromiseEdges extends Edges {
    BookPromiseEdges() {
        book();
        seed();
        keep();
        goBack();
    }

    private void book() {
        under("Promise 27: write");
        edge("An entry behind THE BOOK (0 .. 9): how many.", "0 and 9; 1, 2, .. 15; the last of 25 CELLS", c -> {
            DampLikeness d = made("w5 5;");
            c.due("write(0, 0)", d.write(0, 0), 1);
            c.due("write(24, 9)", d.write(24, 9), 2);
            for (int k = 3; k <= 15; k++) {
                c.due("write(1, 1)", d.write(1, 1), k);
            }
            c.due("entries", d.told(19), 15);
        }, Break.in("int write(", "outside(wet, 0, MOST_WET)", "outside(wet, 1, MOST_WET)"),
                Break.in("int write(", "outside(wet, 0, MOST_WET)", "outside(wet, 0, MOST_WET - 1)"),
                Break.in("int add(int x, int wet)", "count++; return count;", "return count++;"));
        edge("UNKNOWN, OUTSIDE, FULL (15).", "UNKNOWN: one less, one more; no WALL; ahead of OUTSIDE and FULL", c -> {
            DampLikeness d = made("w2 2;");
            c.dueEach("the CELL", UNKNOWN, d.write(-1, 0), d.write(4, 0), d.write(LEAST, 0), d.write(MOST, 0),
                    d.write(4, 10));
            c.due("no WALL", noWall().write(0, 0), UNKNOWN);
            c.due("entries", d.told(19), 0);
            for (int k = 0; k < 15; k++) {
                d.write(0, 0);
            }
            c.due("a full BOOK", d.write(4, 0), UNKNOWN);
        }, Break.in("boolean hasCell(", "x < cells()", "x <= cells()"), Break.in("boolean hasCell(", "x >= 0 &&", ""),
                Break.atStart("int write(", "if (book.count == 15) { return FULL; } "));
        edge("OUTSIDE, FULL (15).", "OUTSIDE: -1 and 10, far ones; ahead of FULL", c -> {
            DampLikeness d = made("w2 2;");
            c.dueEach("how WET", OUTSIDE, d.write(0, -1), d.write(0, 10), d.write(0, LEAST), d.write(0, MOST));
            c.due("entries", d.told(19), 0);
            for (int k = 0; k < 15; k++) {
                d.write(0, 0);
            }
            c.due("a full BOOK", d.write(0, 10), OUTSIDE);
        }, Break.in("int write(", "outside(wet, 0, MOST_WET)", "outside(wet, -1, MOST_WET)"),
                Break.in("int write(", "outside(wet, 0, MOST_WET)", "outside(wet, 0, MOST_WET + 1)"),
                Break.in("int write(", "return outside", "if (book.count == 15) { return FULL; } return outside"));
        edge("FULL (15).", "the 15th is taken, the 16th is not; behind tear() one is", c -> {
            DampLikeness d = made("w2 2;");
            for (int k = 1; k <= 14; k++) {
                d.write(0, 0);
            }
            c.due("the 15th", d.write(0, 0), 15);
            c.due("the 16th", d.write(0, 0), FULL);
            d.tear();
            c.due("behind tear()", d.write(0, 0), 1);
        }, Break.of("MOST_ENTRIES = 15", "MOST_ENTRIES = 14"), Break.of("MOST_ENTRIES = 15", "MOST_ENTRIES = 16"));
        under("Promise 28: tear");
        edge("THE BOOK is empty: how many entries it had.", "0, 15, and 0 then; no WALL", c -> {
            DampLikeness d = made("w2 2;");
            c.due("none", d.tear(), 0);
            for (int k = 0; k < 15; k++) {
                d.write(0, 9);
            }
            c.due("15", d.tear(), 15);
            c.due("none again", d.tear(), 0);
            c.due("entries", d.told(19), 0);
            c.due("judge()", d.judge(), NONE);
            c.due("no WALL", noWall().tear(), 0);
        }, Break.in("int tear(", "return had;", "return book.count;"), Break.in("int tear(", "book.clear();", ""));
        under("Promise 29: judge");
        edge("WRONG; NONE.", "the first entry, the 15th; all right; an empty BOOK; no WALL", c -> {
            c.due("no WALL", noWall().judge(), NONE);
            DampLikeness d = made("w2 2;l3;");
            c.due("empty", d.judge(), NONE);
            for (int k = 0; k < 14; k++) {
                d.write(0, 0);
            }
            c.due("14 that are right", d.judge(), NONE);
            d.write(3, 1);
            c.due("the 15th", d.judge(), 14);
            d.day(1, 1);
            c.due("15 that are right", d.judge(), NONE);
            d.tear();
            d.write(3, 0);
            c.due("the first", d.judge(), 0);
            d.tear();
            c.due("empty again", d.judge(), NONE);
        }, Break.in("int firstWrong(", "k < count", "k < count - 1"),
                Break.in("int firstWrong(", "return NONE;", "return count;"),
                Break.in("int firstWrong(", "k < count", "k < MOST_ENTRIES"));
    }

    private void seed() {
        under("Promise 30: seed");
        edge("THE SEED becomes v (0 .. 2147483647): what it was.", "0 and 2147483647; 0 at first; no WALL needed", c -> {
            DampLikeness d = noWall();
            c.due("seed(2147483647)", d.seed(2147483647), 0);
            c.due("seed(0)", d.seed(0), 2147483647);
            c.due("seed(1)", d.seed(1), 0);
            c.due("seed(0)", d.seed(0), 1);
        }, Break.in("int seed(", "if (v < 0)", "if (v <= 0)"),
                Break.in("int seed(", "if (v < 0)", "if (v < 0 || v == 2147483647)"),
                Break.in("int seed(", "return was;", "return v;"), Break.in("int seed(", "draws.state = v;", ""));
        edge("OUTSIDE.", "-1 and the least; THE SEED stays", c -> {
            DampLikeness d = noWall();
            d.seed(7);
            c.dueEach("v", OUTSIDE, d.seed(-1), d.seed(LEAST));
            c.due("THE SEED", d.seed(0), 7);
        }, Break.in("int seed(", "if (v < 0)", "if (v < -1)"),
                Break.in("int seed(", "if (v < 0)", "if (v < 0 && v != -2147483648)"));
    }

    private void keep() {
        under("Promise 31: keep");
        edge("IMAGE i becomes what is so", "kept anew: the latest counts; without a WALL too", c -> {
            DampLikeness d = made("w2 2;l3;");
            c.due("keep(1)", d.keep(1), 1);
            d.day(1, 9);
            c.due("keep(1) anew", d.keep(1), 1);
            d.brush(3);
            d.goBack(1);
            c.due("the latest", d.cell(3), 9);
            DampLikeness none = noWall();
            none.seed(44);
            c.due("no WALL: keep(0)", none.keep(0), 1);
            none.seed(45);
            c.due("no WALL: goBack(0)", none.goBack(0), 1);
            c.due("no WALL: THE SEED", none.seed(0), 44);
        }, Break.atStart("int keep(", "if (i == 1 && images[1].kept) { return 1; } "),
                Break.atStart("int keep(", "if (noWall()) { return NOT; } "));
        edge("(nothing can be undone then): 1.", "behind 16 that could; the IMAGE itself stays so", c -> {
            DampLikeness d = made("w2 2;l3;");
            for (int k = 0; k < 16; k++) {
                d.day(1, 1);
            }
            c.due("keep(0)", d.keep(0), 1);
            c.due("can be undone", d.told(20), 0);
            c.due("undo()", d.undo(), NOT);
            c.due("DAYS", d.told(6), 16);
            d.day(1, 1);
            c.due("undo() of a next one", d.undo(), 0);
            c.due("undo() again", d.undo(), NOT);
        }, Break.in("int keep(", "past.clear();", ""));
        edge("UNKNOWN.", "-1 and 2, far ones", c -> {
            DampLikeness d = made("w2 2;");
            d.look();
            c.dueEach("the IMAGE", UNKNOWN, d.keep(-1), d.keep(2), d.keep(LEAST), d.keep(MOST), noWall().keep(2));
            c.due("can be undone", d.told(20), 1);
            c.dueEach("0 and 1", 1, d.keep(0), d.keep(1));
        }, Break.of("IMAGES = 2", "IMAGES = 3"), Break.of("IMAGES = 2", "IMAGES = 1"),
                Break.in("int keep(", "outside(i, 0, images.length - 1)", "outside(i, 1, images.length - 1)"));
    }

    private void goBack() {
        under("Promise 32: goBack");
        edge("What is so becomes IMAGE i", "0 and 1; twice the same; what is done then does not change it", c -> {
            DampLikeness d = made("w2 2;l3;");
            d.keep(0);
            d.day(1, 9);
            d.keep(1);
            c.due("goBack(0)", d.goBack(0), 1);
            c.due("IMAGE 0", d.cell(3), 0);
            d.day(1, 5);
            c.due("goBack(0) again", d.goBack(0), 1);
            c.due("IMAGE 0 again", d.cell(3), 0);
            c.due("goBack(1)", d.goBack(1), 1);
            c.due("IMAGE 1", d.cell(3), 9);
        }, Break.in("int goBack(", "now.copyFrom(image.damp);", ""), Break.in("int goBack(", "images[i]", "images[1]"),
                Break.in("int goBack(", "return 1;", "image.kept = false; return 1;"));
        edge("(nothing can be undone then): 1.", "behind some that could", c -> {
            DampLikeness d = made("w2 2;l3;");
            d.keep(0);
            d.day(1, 1);
            d.day(1, 1);
            c.due("goBack(0)", d.goBack(0), 1);
            c.due("can be undone", d.told(20), 0);
            c.due("undo()", d.undo(), NOT);
            c.due("DAYS", d.told(6), 0);
        }, Break.in("int goBack(", "past.clear();", ""));
        edge("UNKNOWN, NOT: it was not kept.", "UNKNOWN: -1 and 2, far ones; none was kept", c -> {
            DampLikeness d = made("w2 2;");
            c.dueEach("the IMAGE", UNKNOWN, d.goBack(-1), d.goBack(2), d.goBack(LEAST), d.goBack(MOST), noWall().goBack(2));
        }, Break.in("int goBack(", "return UNKNOWN;", "return NOT;"), Break.of("IMAGES = 2", "IMAGES = 3"));
        edge("NOT: it was not kept.", "the other one was; none was; what can be undone stays", c -> {
            DampLikeness d = made("w2 2;l3;");
            d.look();
            c.dueEach("none was kept", NOT, d.goBack(0), d.goBack(1));
            c.due("can be undone", d.told(20), 1);
            d.keep(1);
            c.due("the other one was", d.goBack(0), NOT);
            c.due("no WALL", noWall().goBack(0), NOT);
            Check.feed(d, "w2 2;");
            d.wall();
            c.due("behind another wall()", d.goBack(1), NOT);
        }, Break.in("int goBack(", "if (!image.kept) { return NOT; }", ""), Break.atStart("int goBack(", "past.clear(); "),
                Break.in("int wall(", "images[i].kept = false;", ""));
    }
}
