import java.util.ArrayList;
import java.util.List;
import java.util.function.Consumer;

/** The boundary cases of a part of the document, in its order. */
abstract class Edges {
    static final int NONE = Check.NONE, UNKNOWN = Check.UNKNOWN, OUTSIDE = Check.OUTSIDE, NOT = Check.NOT, FULL = Check.FULL;
    static final int LEAST = Integer.MIN_VALUE, MOST = Integer.MAX_VALUE;

    private final List<Edge> told = new ArrayList<>();
    private String where = "";

    static List<Edge> all() {
        List<Edge> all = new ArrayList<>();
        for (Edges part : new Edges[] {new TermsEdges(), new TextEdges(), new DampEdges(), new TriedEdges(),
            new WallPromiseEdges(), new DonePromiseEdges(), new TriedPromiseEdges(), new BookPromiseEdges()}) {
            all.addAll(part.told);
        }
        return all;
    }

    /** For BreaksTest, which calls it in a class that was loaded anew: whether the edge fails there. */
    static boolean fails(int number) {
        return all().get(number).run(true).wrong() > 0;
    }

    final void under(String place) {
        where = place;
    }

    final void edge(String words, String what, Consumer<Check> test, Break... breaks) {
        told.add(new Edge(where, words, what, test, List.of(breaks)));
    }

    static DampLikeness made(String text) {
        return Check.made(text);
    }

    static DampLikeness noWall() {
        return new DampLikeness();
    }

    static int seedOf(DampLikeness d) {
        int seed = d.seed(0);
        d.seed(seed);
        return seed;
    }

    static String blanks(int n) {
        return " ".repeat(n);
    }

    /** A dry wall with 9000 days behind it and a leak at its last cell. */
    static DampLikeness old() {
        DampLikeness d = made("w2 2;l3;");
        for (int k = 0; k < 150; k++) {
            d.day(60, 0);
        }
        return d;
    }

    /** A wall with some of all: two leaks, three cracks, four likenesses, a wind; wet, and with one crack filled. */
    static DampLikeness lived() {
        DampLikeness d = made("w3 3;l1;l6;c1 2;c4 3;c8 5;f7,5,2;f2,6,1;f7,7,7;f2,2,0;n2;");
        d.seed(12);
        d.write(3, 3);
        d.day(2, 7);
        d.lead(1, 3);
        d.fill(0, true);
        d.look();
        d.brush(6);
        d.keep(0);
        d.day(3, 6);
        d.wind(1);
        return d;
    }
}
