/** Promises 27 to 32: the book, the seed, the images. */
public final class BookAndImagesTest {
    private static final Check CHECK = new Check("BookAndImagesTest");

    public static void main(String[] args) {
        book();
        bookStays();
        seed();
        images();
        imagesRefused();
        imageWithoutWall();
        CHECK.finish();
    }

    private static void book() {
        CHECK.due("no wall: write(0, 0)", new DampLikeness().write(0, 0), Check.UNKNOWN);
        DampLikeness d = Check.made("w2 2;l3;");
        CHECK.due("write(4, 0)", d.write(4, 0), Check.UNKNOWN);
        CHECK.due("write(-1, 10)", d.write(-1, 10), Check.UNKNOWN);
        CHECK.due("write(0, -1)", d.write(0, -1), Check.OUTSIDE);
        CHECK.due("write(0, 10)", d.write(0, 10), Check.OUTSIDE);
        CHECK.due("entries", d.told(19), 0);
        CHECK.due("judge() of nothing", d.judge(), Check.NONE);
        CHECK.due("write(0, 0)", d.write(0, 0), 1);
        CHECK.due("judge()", d.judge(), Check.NONE);
        CHECK.due("write(3, 9)", d.write(3, 9), 2);
        CHECK.due("write(3, 0)", d.write(3, 0), 3);
        CHECK.due("judge(): 3 is dry", d.judge(), 1);
        d.day(1, 9);
        CHECK.due("judge(): 3 is wet", d.judge(), 2);
        for (int k = 4; k <= 15; k++) {
            CHECK.due("write(1, 0)", d.write(1, 0), k);
        }
        CHECK.due("entries", d.told(19), 15);
        CHECK.due("a sixteenth", d.write(1, 0), Check.FULL);
        CHECK.due("a sixteenth, outside", d.write(1, 10), Check.OUTSIDE);
        CHECK.due("a sixteenth, unknown", d.write(4, 10), Check.UNKNOWN);
        CHECK.due("entries", d.told(19), 15);
        CHECK.due("tear()", d.tear(), 15);
        CHECK.due("tear() again", d.tear(), 0);
        CHECK.due("entries", d.told(19), 0);
        CHECK.due("judge()", d.judge(), Check.NONE);
        CHECK.due("write behind tear()", d.write(3, 8), 1);
        CHECK.due("judge()", d.judge(), 0);
    }

    /** The book is neither undone nor kept in an image, and writing cannot be undone. */
    private static void bookStays() {
        DampLikeness d = Check.made("w2 2;l3;");
        d.keep(0);
        d.day(1, 9);
        d.write(3, 9);
        CHECK.due("can be undone", d.told(20), 1);
        d.undo();
        CHECK.due("entries, undone", d.told(19), 1);
        CHECK.due("judge(), undone", d.judge(), 0);
        d.write(2, 0);
        d.goBack(0);
        CHECK.due("entries, gone back", d.told(19), 2);
    }

    private static void seed() {
        DampLikeness d = new DampLikeness();
        CHECK.due("seed(5)", d.seed(5), 0);
        CHECK.due("seed(-1)", d.seed(-1), Check.OUTSIDE);
        CHECK.due("seed(MIN)", d.seed(Integer.MIN_VALUE), Check.OUTSIDE);
        CHECK.due("seed(MAX)", d.seed(Integer.MAX_VALUE), 5);
        CHECK.due("seed(0)", d.seed(0), Integer.MAX_VALUE);
        DampLikeness wet = Check.made("w2 2;");
        wet.seed(1);
        wet.drift(1);
        // two draws from 1, and none more: 1103527590; 377401575; (377401575 / 65536) left over by 6 is 4
        CHECK.due("the seed behind a drift", wet.seed(0), 377401575);
        CHECK.due("seed() cannot be undone", wet.told(20), 1);
    }

    private static void images() {
        DampLikeness d = Check.made("w3 3;l1;l6;c1 2;f7,0,0;n2;");
        d.seed(7);
        d.day(3, 8);
        d.look();
        d.brush(6);
        d.lead(1, 0);
        d.wind(1);
        d.fill(0, true);
        CHECK.due("keep(0)", d.keep(0), 1);
        CHECK.due("nothing can be undone", d.told(20), 0);
        CHECK.due("undo()", d.undo(), Check.NOT);
        String first = Check.all(d);
        d.drift(40);
        d.fill(0, false);
        CHECK.due("keep(1)", d.keep(1), 1);
        String second = Check.all(d);
        d.drift(40);
        d.brush(1);
        CHECK.due("goBack(0)", d.goBack(0), 1);
        CHECK.dueText("image 0", Check.all(d), first);
        CHECK.due("undo() behind goBack", d.undo(), Check.NOT);
        d.day(1, 9);
        CHECK.due("goBack(1)", d.goBack(1), 1);
        CHECK.dueText("image 1", Check.all(d), second);
        CHECK.due("goBack(0) again", d.goBack(0), 1);
        CHECK.dueText("image 0 again", Check.all(d), first);
        d.day(2, 5);
        d.keep(0);
        String third = Check.all(d);
        d.look();
        d.goBack(0);
        CHECK.dueText("image 0 kept anew", Check.all(d), third);
        CHECK.due("its days", d.told(6), 5);
    }

    private static void imagesRefused() {
        DampLikeness d = Check.made("w2 2;l3;");
        d.day(1, 9);
        d.seed(6);
        String ahead = Check.all(d);
        CHECK.due("keep(-1)", d.keep(-1), Check.UNKNOWN);
        CHECK.due("keep(2)", d.keep(2), Check.UNKNOWN);
        CHECK.due("goBack(-1)", d.goBack(-1), Check.UNKNOWN);
        CHECK.due("goBack(2)", d.goBack(2), Check.UNKNOWN);
        CHECK.due("goBack(0)", d.goBack(0), Check.NOT);
        CHECK.due("goBack(1)", d.goBack(1), Check.NOT);
        CHECK.dueText("refused images", Check.all(d), ahead);
        CHECK.due("undo() still", d.undo(), 0);
        d.keep(1);
        CHECK.due("goBack(0) still", d.goBack(0), Check.NOT);
    }

    /** Nothing in the document refuses it: only the seed can be another then. */
    private static void imageWithoutWall() {
        DampLikeness d = new DampLikeness();
        d.seed(44);
        CHECK.due("no wall: keep(0)", d.keep(0), 1);
        d.seed(45);
        CHECK.due("no wall: goBack(0)", d.goBack(0), 1);
        CHECK.due("the kept seed", d.seed(0), 44);
        CHECK.due("no wall: told(0)", d.told(0), 0);
        CHECK.due("no wall: goBack(1)", d.goBack(1), Check.NOT);
    }
}
