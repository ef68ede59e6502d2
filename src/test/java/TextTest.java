/** Promises 1 to 5: a new object, the text and its first fault, what was told. */
public final class TextTest {
    private static final Check CHECK = new Check("TextTest");

    public static void main(String[] args) {
        newObject();
        feeding();
        goodTexts();
        cannotStand();
        noSuchNumber();
        oneTooMany();
        noSuchCrack();
        whatAWallClears();
        whatAFaultLeaves();
        told();
        CHECK.finish();
    }

    private static void text(String text, int wall, int fault) {
        CHECK.text(text, wall, fault);
    }

    private static void newObject() {
        DampLikeness d = new DampLikeness();
        for (int what = 0; what <= 20; what++) {
            CHECK.due("new: told(" + what + ")", d.told(what), what == 13 || what == 18 ? Check.NONE : 0);
        }
        CHECK.due("new: fault()", d.fault(), Check.NONE);
        CHECK.due("new: cell(0)", d.cell(0), Check.UNKNOWN);
        CHECK.due("new: leak(0)", d.leak(0), Check.UNKNOWN);
        CHECK.due("new: crack(0, 0)", d.crack(0, 0), Check.UNKNOWN);
        CHECK.due("new: likeness(0, 0)", d.likeness(0, 0), Check.UNKNOWN);
        CHECK.due("new: judge()", d.judge(), Check.NONE);
        CHECK.due("new: tear()", d.tear(), 0);
        CHECK.due("new: seed(0)", d.seed(0), 0);
        CHECK.due("new: goBack(0)", d.goBack(0), Check.NOT);
        CHECK.due("new: undo()", d.undo(), Check.NOT);
    }

    private static void feeding() {
        DampLikeness d = new DampLikeness();
        CHECK.due("feed(-1)", d.feed(-1), Check.OUTSIDE);
        CHECK.due("feed(256)", d.feed(256), Check.OUTSIDE);
        CHECK.due("nothing was fed", d.told(5), 0);
        CHECK.due("feed(0)", d.feed(0), 1);
        CHECK.due("feed(255)", d.feed(255), 2);
        for (int k = 3; k <= 240; k++) {
            CHECK.due("feed(32)", d.feed(32), k);
        }
        CHECK.due("the 241st letter", d.feed(32), Check.FULL);
        CHECK.due("the 241st letter, outside", d.feed(256), Check.OUTSIDE);
        CHECK.due("letters", d.told(5), 240);
        CHECK.due("letter 0 is no word", d.wall(), -11);
        CHECK.due("feed behind wall()", d.feed(119), 1);
        StringBuilder full = new StringBuilder("w2 2;");
        while (full.length() < 237) {
            full.append(' ');
        }
        text(full + "n2;", 4, Check.NONE);
        text(full + "n3;", -12, 238);
        text(full + "n2 ", -11, 240);
    }

    private static void goodTexts() {
        text("", 0, Check.NONE);
        text("    ", 0, Check.NONE);
        text("w2 2;", 4, Check.NONE);
        text("w5 5;", 25, Check.NONE);
        text("w2 5;", 10, Check.NONE);
        text("  w  3 4 ;  ", 12, Check.NONE);
        text("w02 002;", 4, Check.NONE);
        text("w2 2;l0;l3;l0;l0;", 4, Check.NONE);
        text("w2 2;c0 1;c0 2;c3 1;c3 2;", 4, Check.NONE);
        text("w3 3;c0 1;c1 2;c3 4;c4 5;c6 7;c7 8;", 9, Check.NONE);
        text("w2 2;f0,0;f3,3;f1,2;f1,2;f003 , 000 ;", 4, Check.NONE);
        text("w2 5;f31,31;", 10, Check.NONE);
        text("w2 2;n0;", 4, Check.NONE);
        text("w2 2;n2;f0,1;c0 1;l1;", 4, Check.NONE);
    }

    private static void cannotStand() {
        text("l0;", -11, 0);
        text("  n0;", -11, 2);
        text("2 2;", -11, 0);
        text(";", -11, 0);
        text("W2 2;", -11, 0);
        text("w", -11, 1);
        text("w  ", -11, 3);
        text("w;", -11, 1);
        text("w2", -11, 2);
        text("w2;", -11, 2);
        text("w2,2;", -11, 2);
        text("w2 2", -11, 4);
        text("w2 2 ", -11, 5);
        text("w2 2 2;", -11, 5);
        text("w2 2 9999;", -11, 5);
        text("w2 2,", -11, 4);
        text("w2 2;;", -11, 5);
        text("w2 2;x", -11, 5);
        text("w2 2; L0;", -11, 6);
        text("w2 2;3", -11, 5);
        text("w2 2;\t", -11, 5);
        text("w2 2;" + (char) 255, -11, 5);
        text("w2 2;" + (char) 0, -11, 5);
        text("w2 2;l;", -11, 6);
        text("w2 2;l-1;", -11, 6);
        text("w2 2;l0 1;", -11, 8);
        text("w2 2;l0,1;", -11, 7);
        text("w2 2;ll", -11, 6);
        text("w2 2;l0", -11, 7);
        text("w2 2;c0;", -11, 7);
        text("w2 2;c01;", -11, 8);
        text("w2 2;c0,1;", -11, 7);
        text("w2 2;c0 1", -11, 9);
        text("w2 2;c0 1 2;", -11, 10);
        text("w2 2;f;", -11, 6);
        text("w2 2;f,1;", -11, 6);
        text("w2 2;f1;", -11, 7);
        text("w2 2;f1 1;", -11, 8);
        text("w2 2;f1,;", -11, 8);
        text("w2 2;f1,1,1;", -11, 9);
        text("w2 2;f1,1 1;", -11, 10);
        text("w2 2;f1,1", -11, 9);
        text("w3 2;f1,1;", -11, 9);
        text("w2 2;n;", -11, 6);
        text("w2 2;n1", -11, 7);
        text("w2 2;n1 1;", -11, 8);
    }

    private static void noSuchNumber() {
        text("w1 2;", -12, 1);
        text("w6 2;", -12, 1);
        text("w0 2;", -12, 1);
        text("w22;", -12, 1);
        text("w 100 2;", -12, 2);
        text("w2 1;", -12, 3);
        text("w2 6;", -12, 3);
        text("w0002 2;", -12, 1);
        text("w2 0002;", -12, 3);
        text("w4294967298 2;", -12, 1);
        text("w1x", -12, 1);
        text("w2 9", -12, 3);
        text("w2 2;l4;", -12, 6);
        text("w2 3;l5;l6;", -12, 9);
        text("w2 2;l0000;", -12, 6);
        text("w5 5;l25;", -12, 6);
        text("w2 2;c4 5;", -12, 6);
        text("w2 2;c0 4;", -12, 8);
        text("w2 2;c0 0001;", -12, 8);
        text("w2 2;f4,0;", -12, 6);
        text("w2 2;f0,4;", -12, 8);
        text("w2 2;f0,0003;", -12, 8);
        text("w2 5;f31,32;", -12, 9);
        text("w2 2;n3;", -12, 6);
        text("w2 2;n999", -12, 6);
    }

    private static void oneTooMany() {
        text("w2 2;w2 2;", -13, 5);
        text("w2 2; w", -13, 6);
        text("w2 2;l0;l0;l0;l0;l0;", -13, 17);
        text("w2 2;l0;l0;l0;l0;n1;lx", -13, 20);
        text("w3 3;c0 1;c1 2;c3 4;c4 5;c6 7;c7 8;c0 3;", -13, 35);
        text("w3 3;c0 1;c1 2;c3 4;c4 5;c6 7;c7 8;c", -13, 35);
        text("w2 2;f0,0;f0,0;f0,0;f0,0;f0,0;f0,0;", -13, 30);
        text("w2 2;n0;n0;", -13, 8);
        text("w2 2;n1;l0;n", -13, 11);
    }

    private static void noSuchCrack() {
        text("w2 2;c1 2;", -14, 8);
        text("w2 2;c2 1;", -14, 8);
        text("w2 2;c0 3;", -14, 8);
        text("w2 2;c0 0;", -14, 8);
        text("w2 2;c0  3x", -14, 9);
        text("w3 3;c2 3;", -14, 8);
        text("w3 3;c0 2;", -14, 8);
        text("w3 3;c1 7;", -14, 8);
        text("w2 2;c0 1;c0 1;", -14, 13);
        text("w2 2;c0 1;c1 0;", -14, 13);
        text("w5 2;c8 9;c9 8;", -14, 13);
    }

    private static void whatAWallClears() {
        DampLikeness d = Check.made("w2 2;l0;c0 1;f1,1;n1;");
        d.seed(77);
        d.day(5, 9);
        d.look();
        d.brush(1);
        d.fill(0, true);
        d.wind(2);
        d.lead(0, 3);
        d.write(1, 1);
        d.keep(0);
        d.keep(1);
        d.day(1, 1);
        Check.feed(d, "w2 3;l4;l5;c3 4;n1;");
        CHECK.due("a second wall()", d.wall(), 6);
        int[] want = {2, 3, 2, 1, 0, 0, 0, 1, 0, 0, 0, 0, 0, Check.NONE, 0, 0, 0, 0, Check.NONE, 0, 0};
        for (int what = 0; what < want.length; what++) {
            CHECK.due("second wall: told(" + what + ")", d.told(what), want[what]);
        }
        CHECK.cells("second wall", d, 0, 0, 0, 0, 0, 0, Check.UNKNOWN);
        CHECK.due("second wall: leak(1)", d.leak(1), 5);
        CHECK.due("second wall: leak(2)", d.leak(2), Check.UNKNOWN);
        CHECK.due("second wall: goBack(0)", d.goBack(0), Check.NOT);
        CHECK.due("second wall: goBack(1)", d.goBack(1), Check.NOT);
        CHECK.due("second wall: undo()", d.undo(), Check.NOT);
        CHECK.due("second wall: judge()", d.judge(), Check.NONE);
        CHECK.due("the seed stays", d.seed(77), 77);
        d.day(1, 9);
        CHECK.due("an empty text: wall()", d.wall(), 0);
        CHECK.dueText("no wall again", Check.all(d).replace(" 77 ", " 0 "), Check.all(new DampLikeness()));
        CHECK.due("no wall again: look()", d.look(), Check.NOT);
    }

    private static void whatAFaultLeaves() {
        DampLikeness d = Check.made("w2 2;l0;c0 1;f1,1;n1;");
        d.day(2, 9);
        d.write(0, 3);
        d.keep(0);
        d.look();
        d.seed(9);
        String ahead = Check.all(d);
        Check.feed(d, "w3 3;l1;c0 1;n1;q");
        CHECK.due("a text with a fault", d.wall(), -11);
        CHECK.due("its letter", d.fault(), 16);
        String behind = Check.all(d);
        CHECK.dueText("all else is as it was", behind.substring(0, behind.lastIndexOf(' ')),
                ahead.substring(0, ahead.lastIndexOf(' ')));
        CHECK.due("likeness(0, 0)", d.likeness(0, 0), 5);
        CHECK.due("what can be undone stays", d.undo(), 0);
        CHECK.due("the image stays", d.goBack(0), 1);
        CHECK.due("fault() again", d.fault(), 16);
        Check.feed(d, "w3 3;");
        CHECK.due("a good text", d.wall(), 9);
        CHECK.due("its fault()", d.fault(), Check.NONE);
    }

    private static void told() {
        DampLikeness d = Check.made("w3 4;l1;l2;l3;c0 1;c5 4;f1,2,4;f15,0,9;f0,0,0;f8,8,8;n2;");
        int[] want = {3, 4, 3, 2, 4, 0, 0, 2};
        for (int what = 0; what < want.length; what++) {
            CHECK.due("told(" + what + ")", d.told(what), want[what]);
        }
        CHECK.due("told(-1)", d.told(-1), Check.OUTSIDE);
        CHECK.due("told(21)", d.told(21), Check.OUTSIDE);
        CHECK.due("told(MIN)", d.told(Integer.MIN_VALUE), Check.OUTSIDE);
        CHECK.due("told(MAX)", d.told(Integer.MAX_VALUE), Check.OUTSIDE);
        CHECK.due("leak(2)", d.leak(2), 3);
        CHECK.due("crack(1, 0)", d.crack(1, 0), 5);
        CHECK.due("crack(1, 1)", d.crack(1, 1), 4);
        CHECK.due("likeness(0, 0)", d.likeness(0, 0), 1 | 2 << 4 | 4 << 8);
        CHECK.due("likeness(1, 0)", d.likeness(1, 0), 15 | 9 << 8);
        CHECK.due("wind untold", Check.made("w2 2;").told(7), 0);
    }
}
