/** "Terms", section 1: the wall in its text, and the first fault. */
final class TextEdges extends Edges {
    TextEdges() {
        under("Terms, section 1");
        size();
        leaksAndCracks();
        facesAndWind();
        numbersAndBlanks();
        whichFault();
        cannotStand();
        noSuchNumber();
        oneTooMany();
        noSuchCrack();
        emptyText();
    }

    private void size() {
        edge("240 letters at most", "a text of just 240 letters", c -> {
            String head = "w2 2;" + blanks(232);
            c.text(head + "n2;", 4, NONE);
            c.text(head + "n3;", -12, 238);
        }, Break.of("MOST_LETTERS = 240", "MOST_LETTERS = 239"));
        edge("2 to 5 ROWS from the top", "1, 2, 5, 6 ROWS", c -> {
            c.text("w2 2;", 4, NONE);
            c.text("w5 2;", 10, NONE);
            c.text("w1 2;", -12, 1);
            c.text("w6 2;", -12, 1);
            c.due("told(0)", made("w5 2;").told(0), 5);
        }, Break.in("void readSize(", "int rows = takeNumber(2,", "int rows = takeNumber(1,"),
                Break.in("void readSize(", "int rows = takeNumber(2,", "int rows = takeNumber(3,"),
                Break.in("void readSize(", "int rows = takeNumber(2, MOST_SIDE)", "int rows = takeNumber(2, 6)"),
                Break.in("void readSize(", "int rows = takeNumber(2, MOST_SIDE)", "int rows = takeNumber(2, 4)"));
        edge("from the top", "ROW 0 is the top: it runs from there, the last ROW keeps it", c -> {
            c.afterDay("w2 2;l0;", 1, 2, 1, 0, 1, 0);
            c.afterDay("w2 2;l2;", 1, 2, 0, 0, 2, 0);
        }, Break.in("int below(", "x + columns < cells() ? x + columns : NONE", "x >= columns ? x - columns : NONE"));
        edge("2 to 5 COLUMNS", "1, 2, 5, 6 COLUMNS", c -> {
            c.text("w2 2;", 4, NONE);
            c.text("w2 5;", 10, NONE);
            c.text("w2 1;", -12, 3);
            c.text("w2 6;", -12, 3);
            c.due("told(1)", made("w2 5;").told(1), 5);
            c.text("w5 5;", 25, NONE);
        }, Break.in("void readSize(", "int columns = takeNumber(2,", "int columns = takeNumber(1,"),
                Break.in("void readSize(", "int columns = takeNumber(2, MOST_SIDE)", "int columns = takeNumber(2, 6)"),
                Break.of("MOST_SIDE = 5", "MOST_SIDE = 4"));
        edge("CELL number: ROW times W, and COLUMN", "the last CELL of the first ROW, the first one of the last", c -> {
            c.afterDay("w2 5;l4;", 1, 9, 0, 0, 0, 0, 8, 0, 0, 0, 0, 1);
            c.afterDay("w2 5;l5;", 1, 9, 0, 0, 0, 0, 0, 9, 0, 0, 0, 0);
        }, Break.in("void readSize(", "into.resize(rows, columns)", "into.resize(columns, rows)"));
        edge("first, once)", "another clause ahead of it; a second 'w'", c -> {
            c.text("n0;w2 2;", -11, 0);
            c.text("w2 2;w2 2;", -13, 5);
        }, Break.in("void readClause(", "into.rows == 0 && word != 'w'", "into.rows == 0 && word != 'w' && word != 'n'"),
                Break.in("void readSize(", "takeWord(into.rows > 0)", "takeWord(false)"));
    }

    private void leaksAndCracks() {
        edge("4 LEAKS at most", "no LEAK, four of them", c -> {
            c.due("no LEAK", made("w2 2;").told(2), 0);
            DampLikeness d = made("w2 2;l3;l2;l1;l0;");
            c.due("four", d.told(2), 4);
            c.due("the last", d.leak(3), 0);
        }, Break.of("MOST_LEAKS = 4", "MOST_LEAKS = 3"));
        edge("at a CELL)", "the first and the last CELL, twice the same; the one behind the last", c -> {
            c.text("w2 3;l0;l5;l5;", 6, NONE);
            c.text("w2 3;l6;", -12, 6);
        }, Break.in("void readLeak(", "into.cells() - 1", "into.cells()"),
                Break.in("void readLeak(", "into.cells() - 1", "into.cells() - 2"),
                Break.in("void readLeak(", "takeNumber(0,", "takeNumber(1,"));
        edge("6 CRACKS at most", "no CRACK, six of them", c -> {
            c.due("no CRACK", made("w2 2;").told(3), 0);
            DampLikeness d = made("w3 3;c0 1;c1 2;c3 4;c4 5;c6 7;c8 7;");
            c.due("six", d.told(3), 6);
            c.due("the last, its A", d.crack(5, 0), 8);
        }, Break.of("MOST_CRACKS = 6", "MOST_CRACKS = 5"));
        edge("between CELLS side by side or one above the other", "each of four ways; across the end of a ROW", c -> {
            c.text("w3 3;c0 1;c2 1;c0 3;c6 3;c7 8;c5 8;", 9, NONE);
            c.text("w3 3;c2 3;", -14, 8);
            c.text("w3 3;c3 2;", -14, 8);
        }, Break.in("boolean touch(", "apart == 1 && columnOf(low) + 1 < columns", "apart == 1"),
                Break.in("boolean touch(", "apart == columns ||", ""),
                Break.in("boolean touch(", "columnOf(low) + 1 < columns", "columnOf(low) + 2 < columns"),
                Break.in("boolean touch(", "Math.max(a, b) - low", "b - a"));
        edge("each once) 'f'", "a second one between the same CELLS; another one at one of them", c -> {
            c.text("w2 2;c0 1;c0 1;", -14, 13);
            c.text("w2 2;c0 1;c0 2;c1 3;", 4, NONE);
            c.text("w3 3;c5 4;c4 1;c1 0;c3 4;", 9, NONE);
            c.text("w3 3;c1 0;c4 1;c4 3;c5 4;", 9, NONE);
        }, Break.in("void readCrack(", "|| into.isCracked(a, b)", ""),
                Break.in("boolean isCracked(", "crackA[c] == a && crackB[c] == b", "crackA[c] == a"),
                Break.in("boolean isCracked(", "crackA[c] == b && crackB[c] == a", "crackA[c] == b"),
                Break.in("boolean isCracked(", "crackA[c] == b && crackB[c] == a", "crackB[c] == a"));
    }

    private void facesAndWind() {
        edge("5 LIKENESSES at most", "no LIKENESS, five of them", c -> {
            c.due("none", made("w2 2;").told(4), 0);
            DampLikeness d = made("w2 2;f0,0;f1,0;f2,0;f3,0;f3,3;");
            c.due("five", d.told(4), 5);
            c.due("the last", d.likeness(4, 0), 15);
        }, Break.of("MOST_FACES = 5", "MOST_FACES = 4"));
        edge("ROW by ROW from the top, H of them", "one less, one more than H; the first is the top", c -> {
            c.due("its CELLS", made("w3 2;f1,2,3;").likeness(0, 0), 1 | 2 << 2 | 3 << 4);
            c.text("w3 2;f1,2;", -11, 9);
            c.text("w3 2;f1,2,3,0;", -11, 11);
            c.due("five ROWS", made("w5 5;f0,0,0,0,31;").likeness(0, 0), 31 << 20);
        }, Break.in("void readFace(", "row < into.rows", "row < into.rows - 1"),
                Break.in("void readFace(", "row < into.rows", "row <= into.rows"),
                Break.in("void readFace(", "(row * into.columns)", "((into.rows - 1 - row) * into.columns)"));
        edge("a SET of COLUMNS", "no COLUMN, all of them, one that there is not", c -> {
            c.text("w2 2;f0,3;", 4, NONE);
            c.text("w2 5;f0,31;", 10, NONE);
            c.text("w2 2;f0,4;", -12, 8);
            c.text("w2 5;f32,0;", -12, 6);
        }, Break.in("void readFace(", "(1 << into.columns) - 1", "(1 << into.columns)"),
                Break.in("void readFace(", "(1 << into.columns) - 1", "(1 << into.columns) - 2"),
                Break.in("void readFace(", "takeNumber(0,", "takeNumber(1,"));
        edge("WIND: 0 none, 1 to lesser COLUMNS, 2 to greater ones", "0, 1, 2 and 3", c -> {
            c.afterDay("w2 3;l4;n0;", 1, 4, 0, 0, 0, 0, 4, 0);
            c.afterDay("w2 3;l4;n1;", 1, 4, 0, 0, 0, 1, 3, 0);
            c.afterDay("w2 3;l4;n2;", 1, 4, 0, 0, 0, 0, 3, 1);
            c.text("w2 3;n3;", -12, 6);
        }, Break.in("int beside(", "wind == 1", "wind == 0"), Break.in("int beside(", "if (wind == 1)", "if (wind == 2)"),
                Break.of("MOST_WIND = 2", "MOST_WIND = 3"), Break.of("MOST_WIND = 2", "MOST_WIND = 1"));
        edge("0 untold", "a text without an 'n'", c -> {
            c.due("told(7)", made("w2 3;l4;").told(7), 0);
            c.afterDay("w2 3;l4;", 1, 9, 0, 0, 0, 0, 9, 0);
            DampLikeness d = made("w2 3;n2;");
            Check.feed(d, "w2 3;");
            d.wall();
            Check.feed(d, "w2 3;");
            d.wall();
            c.due("told(7) behind a WALL with a WIND", d.told(7), 0);
        }, Break.in("void clear() { resize", "wind = 0;", ""), Break.in("void clear() { resize", "wind = 0;", "wind = 1;"));
        edge("0 untold; once)", "a second 'n', of the same WIND too", c -> {
            c.text("w2 2;n1;n1;", -13, 8);
            c.text("w2 2;n0;n2;", -13, 8);
        }, Break.in("void readWind(", "takeWord(windTold)", "takeWord(into.wind != 0)"),
                Break.in("void readWind(", "takeWord(windTold)", "takeWord(false)"));
    }

    private void numbersAndBlanks() {
        edge("NUMBERS have one to three figures", "one, two, three, four of them", c -> {
            c.text("w2 02;l003;", 4, NONE);
            c.text("w2 02;l0003;", -12, 7);
            c.text("w2 02;l;", -11, 7);
            c.due("012 is 12", made("w5 5;l012;").leak(0), 12);
            c.text("w5 5;l123;", -12, 6);
        }, Break.in("int takeNumber(", "at - numberAt > 3", "at - numberAt > 2"),
                Break.in("int takeNumber(", "if (at - numberAt < 3)", "if (at - numberAt < 2)"),
                Break.in("int takeNumber(", "at - numberAt > 3", "at - numberAt > 4"),
                Break.in("int takeNumber(", "if (faultKind == 0 && !isFigure(peek())) { fail(CANNOT_STAND, at); }", ""));
        edge("a word is one letter", "two letters, the same or not", c -> {
            c.text("ww2 2;", -11, 1);
            c.text("w2 2;ll0;", -11, 6);
            c.text("w2 2;n n0;", -11, 7);
            c.text("wl2 2;", -11, 1);
        }, Break.in("void takeWord(", "at++;", "while (peek() > '9') { at++; }"));
        edge("blanks (32) may stand anywhere", "ahead of all, between all, behind all; none at all", c -> {
            c.text("   w  2  2  ;  l  3  ;  c  0  1  ;  f  1  ,  2  ;  n  1  ;   ", 4, NONE);
            c.text("w2 2;l3;c0 1;f1,2;n1;", 4, NONE);
        }, Break.in("int peek(", "while (at < count", "while (at > 0 && at < count"),
                Break.in("int peek(", "while (at < count", "while (at < count - 1"));
        edge("blanks (32)", "31, 33, 9, 10, 0 and 160 are none", c -> {
            for (int letter : new int[] {31, 33, 9, 10, 0, 160}) {
                c.text("w2" + (char) letter + "2;", -11, 2);
                c.text("w2 2;" + (char) letter, -11, 5);
            }
        }, Break.in("int peek(", "== ' '", "<= ' '"), Break.in("int peek(", "== ' '", "% 128 == ' '"));
        edge("anywhere but within NUMBERS", "a blank within a NUMBER makes two of it", c -> {
            c.text("w5 5;l12;", 25, NONE);
            c.text("w5 5;l1 2;", -11, 8);
            c.text("w 2 2;", 4, NONE);
        }, Break.in("int takeNumber(", "at++; }", "at++; if (at > 6) { peek(); } }"));
        edge("two NUMBERS side by side need one", "H and W, A and B without it are one NUMBER", c -> {
            c.text("w22;", -12, 1);
            c.text("w2 2;c01;", -11, 8);
            c.text("w2 2;c0 1;", 4, NONE);
        }, Break.in("int takeNumber(", "while (at < count", "while (at < numberAt + 1 && at < count"));
    }

    private void whichFault() {
        edge("FAULTS, at the first letter that has one", "of two FAULTS the one that comes first", c -> {
            c.text("w2 2;l9;x", -12, 6);
            c.text("w2 2;x;l9;", -11, 5);
            c.text("w2 2;c0 3;l9;", -14, 8);
            c.text("w2 2;c4 9;", -12, 6);
        }, Break.in("void fail(", "if (faultKind == 0)", "if (kind > 0)"));
        edge("(the end at the text's length)", "a text that ends too early, in blanks too", c -> {
            c.text("w", -11, 1);
            c.text("w2 2", -11, 4);
            c.text("w2 2   ", -11, 7);
            c.text("w2 2;f1,", -11, 8);
            c.text(blanks(239) + "w", -11, 240);
        }, Break.in("boolean takeSign(", "fail(CANNOT_STAND, at)", "fail(CANNOT_STAND, Math.min(at, count - 1))"),
                Break.in("int takeNumber(", "fail(CANNOT_STAND, at)", "fail(CANNOT_STAND, Math.min(at, count - 1))"));
        edge("of these the least: 1", "1 ahead of 2: a NUMBER of four figures where none can stand", c -> {
            c.text("w2 2 9999;", -11, 5);
            c.text("w2 2;9999", -11, 5);
        }, Break.in("boolean takeSign(", "if (faultKind == 0 && peek()",
                "if (faultKind == 0 && isFigure(peek())) { takeNumber(0, 999); } if (faultKind == 0 && peek()"));
        edge("of these the least", "1 ahead of 3: a second 'w', 'n' where no word can stand", c -> {
            c.text("w2 w", -11, 3);
            c.text("w2 2;n1 n", -11, 8);
        }, Break.in("int takeNumber(", "if (faultKind == 0 && !isFigure",
                        "if (faultKind == 0 && peek() == 'w') { fail(ONE_TOO_MANY, at); } if (faultKind == 0 && !isFigure"),
                Break.in("boolean takeSign(", "fail(CANNOT_STAND, at)",
                        "fail(peek() == 'n' ? ONE_TOO_MANY : CANNOT_STAND, at)"));
        edge("of these the least", "2 ahead of 4: a B that is no CELL, one of four figures", c -> {
            c.text("w2 2;c0 4;", -12, 8);
            c.text("w2 2;c0 0003;", -12, 8);
            c.text("w2 2;c0 1;c0 0001;", -12, 13);
        }, Break.in("void readCrack(", "int b = takeNumber(0, into.cells() - 1)", "int b = takeNumber(0, 999)"),
                Break.in("void fail(", "if (faultKind == 0)", "if (kind > 0)"));
    }

    private void cannotStand() {
        edge("a letter that is no word", "letters 0 and 255, signs, figures, great letters", c -> {
            for (char letter : new char[] {0, 255, ';', ',', '0', '9', 'W', 'L', 'x', 'a', 'v', '-'}) {
                c.text("w2 2;" + letter, -11, 5);
                c.text("" + letter, -11, 0);
            }
        }, Break.in("void readClause(", "default: fail(CANNOT_STAND, at);", "default: at++;"));
        edge("another word first than 'w'", "each other word, blanks ahead of it too", c -> {
            c.text("l0;", -11, 0);
            c.text("c0 1;", -11, 0);
            c.text("f0,0;", -11, 0);
            c.text("  n0;", -11, 2);
        }, Break.in("void readClause(", "into.rows == 0 && word != 'w'", "false"));
        edge("a ',' behind H numbers P", "at that ','", c -> {
            c.text("w2 2;f1,1,1;", -11, 9);
            c.text("w2 2;f1,1 ,", -11, 10);
        }, Break.in("void readFace(", "if (takeSign(';'))",
                "if (peek() == ',') { at++; takeNumber(0, 3); } if (takeSign(';'))"));
        edge("another letter than ',' behind fewer", "a ';', a NUMBER, the end", c -> {
            c.text("w2 2;f1;", -11, 7);
            c.text("w2 2;f1 1;", -11, 8);
            c.text("w2 2;f1", -11, 7);
            c.text("w5 2;f1,1,1,1;", -11, 13);
        }, Break.in("void readFace(", "takeSign(',');", "if (peek() == ',') { at++; }"));
    }

    private void noSuchNumber() {
        edge("2 a NUMBER of four figures or more", "within its bounds by its value; one that wraps around", c -> {
            c.text("w0002 2;", -12, 1);
            c.text("w2 2;l0000;", -12, 6);
            c.text("w2 2;l4294967296;", -12, 6);
            c.text("w2 2;n00000000000000000001;", -12, 6);
        }, Break.in("int takeNumber(", "at - numberAt > 3 ||", ""),
                Break.in("int takeNumber(", "at - numberAt > 3 ||", "at - numberAt == 4 ||"));
        edge("or out of its bounds", "one less, one more than each bound", c -> {
            c.text("w1 2;", -12, 1);
            c.text("w6 2;", -12, 1);
            c.text("w2 1;", -12, 3);
            c.text("w2 6;", -12, 3);
            c.text("w2 2;l4;", -12, 6);
            c.text("w2 2;c4 0;", -12, 6);
            c.text("w2 2;c0 4;", -12, 8);
            c.text("w2 2;f4,0;", -12, 6);
            c.text("w2 2;n3;", -12, 6);
            c.text("w2 2;l999;", -12, 6);
        }, Break.in("int takeNumber(", "|| outside(value, least, most)", "|| value > most"),
                Break.in("int takeNumber(", "|| outside(value, least, most)", "|| value < least"),
                Break.in("void readCrack(", "int a = takeNumber(0, into.cells() - 1)",
                        "int a = takeNumber(0, into.cells())"));
        edge("P: bits of COLUMNS", "the bit behind the last COLUMN, in the last ROW too", c -> {
            c.text("w2 3;f7,7;", 6, NONE);
            c.text("w2 3;f8,0;", -12, 6);
            c.text("w2 3;f0,8;", -12, 8);
        }, Break.in("void readFace(", "(1 << into.columns) - 1", "31"));
        edge("at its first)", "the FAULT is at the NUMBER's first figure", c -> {
            c.text("w2 2;l123;", -12, 6);
            c.text("w2 2;l  00000;", -12, 8);
        }, Break.in("int takeNumber(", "fail(NO_SUCH_NUMBER, numberAt)", "fail(NO_SUCH_NUMBER, at - 1)"),
                Break.in("int takeNumber(", "fail(NO_SUCH_NUMBER, numberAt)",
                        "fail(NO_SUCH_NUMBER, at - numberAt > 3 ? numberAt + 3 : numberAt)"));
    }

    private void oneTooMany() {
        edge("3 'w', 'n' again", "a second 'w', a second 'n'", c -> {
            c.text("w2 2;w3 3;", -13, 5);
            c.text("w2 2;n0;l0;n0;", -13, 11);
        }, Break.in("void readSize(", "takeWord(into.rows > 0)", "takeWord(false)"),
                Break.in("void readWind(", "takeWord(windTold)", "takeWord(false)"));
        edge("a fifth 'l'", "the fourth is taken, the fifth not", c -> {
            c.text("w2 2;l0;l1;l2;l3;", 4, NONE);
            c.text("w2 2;l0;l1;l2;l3;l0;", -13, 17);
        }, Break.in("void readLeak(", ">= MOST_LEAKS", "> MOST_LEAKS"));
        edge("a seventh 'c'", "the sixth is taken, the seventh not", c -> {
            c.text("w3 3;c0 1;c1 2;c3 4;c4 5;c6 7;c7 8;", 9, NONE);
            c.text("w3 3;c0 1;c1 2;c3 4;c4 5;c6 7;c7 8;c0 3;", -13, 35);
        }, Break.in("void readCrack(", ">= MOST_CRACKS", "> MOST_CRACKS"));
        edge("a sixth 'f'", "the fifth is taken, the sixth not", c -> {
            c.text("w2 2;f0,0;f0,0;f0,0;f0,0;f0,0;", 4, NONE);
            c.text("w2 2;f0,0;f0,0;f0,0;f0,0;f0,0;f0,0;", -13, 30);
        }, Break.in("void readFace(", ">= MOST_FACES", "> MOST_FACES"));
        edge("(at it)", "at the word, whatever stands behind it", c -> {
            c.text("w2 2;  w", -13, 7);
            c.text("w2 2;n1; n9999", -13, 9);
            c.text("w2 2;l0;l0;l0;l0;lx", -13, 17);
        }, Break.in("void takeWord(", "fail(ONE_TOO_MANY, at)", "fail(ONE_TOO_MANY, at + 1)"));
    }

    private void noSuchCrack() {
        edge("4 a B that is not next to A", "A itself, one across, two away, across the end of a ROW", c -> {
            c.text("w3 3;c4 4;", -14, 8);
            c.text("w3 3;c0 4;", -14, 8);
            c.text("w3 3;c0 2;", -14, 8);
            c.text("w3 3;c1 7;", -14, 8);
            c.text("w3 3;c2 3;", -14, 8);
            c.text("w2 2;c1 2;", -14, 8);
        }, Break.in("void readCrack(", "!into.touch(a, b) ||", ""),
                Break.in("boolean touch(", "apart == columns ||", "apart % columns == 0 ||"),
                Break.in("boolean touch(", "&& columnOf(low) + 1 < columns", ""));
        edge("a CRACK that was told, either way round", "told again, and told again from B to A", c -> {
            c.text("w2 2;c0 1;c0 1;", -14, 13);
            c.text("w2 2;c0 1;c1 0;", -14, 13);
            c.text("w2 2;c0 1;c2 3;c0 2;c1 3;c3 1;", -14, 28);
        }, Break.in("boolean isCracked(", "|| (crackA[c] == b && crackB[c] == a)", ""),
                Break.in("boolean isCracked(", "(crackA[c] == a && crackB[c] == b) ||", ""),
                Break.in("boolean isCracked(", "c < crackCount &&", "c < crackCount - 1 &&"));
        edge("(at the B)", "at the first figure of B", c -> {
            c.text("w2 2;c 0  3  ;", -14, 10);
            c.text("w2 2;c0 003;", -14, 8);
        }, Break.in("void readCrack(", "fail(NO_SUCH_CRACK, numberAt)", "fail(NO_SUCH_CRACK, at)"));
    }

    private void emptyText() {
        edge("An empty text", "no letter at all: no WALL, and no FAULT", c -> {
            c.text("", 0, NONE);
            DampLikeness d = made("w2 2;l0;");
            c.due("wall() behind another WALL", d.wall(), 0);
            c.due("ROWS", d.told(0), 0);
            c.due("look()", d.look(), NOT);
            c.due("cell(0)", d.cell(0), UNKNOWN);
        }, Break.in("int wall(", "if (!reader.read(spare))", "if (reader.count == 0 || !reader.read(spare))"),
                Break.in("int wall(", "Plan old = plan;", "if (spare.rows == 0) { return 0; } Plan old = plan;"));
        edge("(or one of blanks alone): no WALL.", "one blank, 240 of them", c -> {
            c.text(" ", 0, NONE);
            c.text(blanks(240), 0, NONE);
        }, Break.in("boolean read(", "peek() != END", "at < count"));
    }
}
