import java.util.ArrayDeque;
import java.util.ArrayList;
import java.util.Arrays;
import java.util.List;
import java.util.TreeMap;
import java.util.TreeSet;

/**
 * The document told once more, in another way than in the class: rows of rows, lists, marks as sets of numbers,
 * each question tried out in full. RandomRunsTest asks both.
 */
final class Model {
    private static final int NONE = -1, UNKNOWN = -1000000001, OUTSIDE = -1000000002, NOT = -1000000003, FULL = -1000000004;

    /** All of section 2. */
    private static final class State {
        int[][] wet = new int[0][0];
        List<Integer> leaks = new ArrayList<>();
        TreeSet<Integer> filled = new TreeSet<>();
        int wind, days, looks, brushes;

        State copy() {
            State s = new State();
            s.wet = new int[wet.length][];
            for (int r = 0; r < wet.length; r++) {
                s.wet[r] = wet[r].clone();
            }
            s.leaks = new ArrayList<>(leaks);
            s.filled = new TreeSet<>(filled);
            s.wind = wind;
            s.days = days;
            s.looks = looks;
            s.brushes = brushes;
            return s;
        }
    }

    private static final class Fault extends RuntimeException {
        private static final long serialVersionUID = 1L;
        final int kind, at;

        Fault(int kind, int at) {
            this.kind = kind;
            this.at = at;
        }
    }

    private final StringBuilder text = new StringBuilder();
    private int h, w, faultAt = NONE;
    private List<int[]> cracks = new ArrayList<>();
    private List<TreeSet<Integer>> faces = new ArrayList<>();
    private State now = new State();
    private final ArrayDeque<State> past = new ArrayDeque<>();
    private final List<int[]> book = new ArrayList<>();
    private final TreeMap<Integer, State> images = new TreeMap<>();
    private final TreeMap<Integer, Long> imageSeeds = new TreeMap<>();
    private long seed;

    // ---- the text: first cut into words and numbers, then read

    private record Token(String sign, int at) {
        boolean isNumber() {
            return Character.isDigit(sign.charAt(0));
        }
    }

    private static final class Tokens {
        final List<Token> all = new ArrayList<>();
        int next = 0;

        Tokens(String text) {
            int k = 0;
            while (k < text.length()) {
                int from = k;
                char c = text.charAt(k++);
                if (c >= '0' && c <= '9') {
                    while (k < text.length() && text.charAt(k) >= '0' && text.charAt(k) <= '9') {
                        k++;
                    }
                    all.add(new Token(text.substring(from, k), from));
                } else if (c != ' ') {
                    all.add(new Token("" + (c > '9' && c < 128 || c < '0' ? c : '?'), from));
                }
            }
            all.add(new Token("$", text.length()));
        }

        Token peek() {
            return all.get(next);
        }

        void sign(String sign) {
            if (!peek().sign.equals(sign) || peek() == all.get(all.size() - 1)) {
                throw new Fault(1, peek().at);
            }
            next++;
        }

        int number(int least, int most) {
            Token t = peek();
            if (!t.isNumber()) {
                throw new Fault(1, t.at);
            }
            if (t.sign.length() > 3 || Integer.parseInt(t.sign) < least || Integer.parseInt(t.sign) > most) {
                throw new Fault(2, t.at);
            }
            next++;
            return Integer.parseInt(t.sign);
        }
    }

    int feed(int letter) {
        if (letter < 0 || letter > 255) {
            return OUTSIDE;
        }
        if (text.length() == 240) {
            return FULL;
        }
        text.append((char) letter);
        return text.length();
    }

    int wall() {
        String told = text.toString();
        text.setLength(0);
        try {
            Model read = new Model();
            read.read(new Tokens(told));
            faultAt = NONE;
            h = read.h;
            w = read.w;
            cracks = read.cracks;
            faces = read.faces;
            now = read.now;
            past.clear();
            book.clear();
            images.clear();
            return h * w;
        } catch (Fault fault) {
            faultAt = fault.at;
            return -10 - fault.kind;
        }
    }

    private void read(Tokens t) {
        boolean windTold = false;
        while (t.next < t.all.size() - 1) {
            Token word = t.peek();
            if (h == 0 && !word.sign.equals("w")) {
                throw new Fault(1, word.at);
            }
            if (!"wlcfn".contains(word.sign)) {
                throw new Fault(1, word.at);
            }
            boolean again = word.sign.equals("w") && h > 0 || word.sign.equals("n") && windTold
                    || word.sign.equals("l") && now.leaks.size() == 4 || word.sign.equals("c") && cracks.size() == 6
                    || word.sign.equals("f") && faces.size() == 5;
            if (again) {
                throw new Fault(3, word.at);
            }
            t.next++;
            if (word.sign.equals("w")) {
                int rows = t.number(2, 5);
                w = t.number(2, 5);
                h = rows;
                now.wet = new int[h][w];
            } else if (word.sign.equals("l")) {
                now.leaks.add(t.number(0, h * w - 1));
            } else if (word.sign.equals("n")) {
                now.wind = t.number(0, 2);
                windTold = true;
            } else if (word.sign.equals("c")) {
                readCrack(t);
            } else {
                readFace(t);
            }
            t.sign(";");
        }
    }

    private void readCrack(Tokens t) {
        int a = t.number(0, h * w - 1);
        int at = t.peek().at;
        int b = t.number(0, h * w - 1);
        boolean next = Math.abs(a / w - b / w) + Math.abs(a % w - b % w) == 1;
        for (int[] crack : cracks) {
            if (Math.min(a, b) == Math.min(crack[0], crack[1]) && Math.max(a, b) == Math.max(crack[0], crack[1])) {
                next = false;
            }
        }
        if (!next) {
            throw new Fault(4, at);
        }
        cracks.add(new int[] {a, b});
    }

    private void readFace(Tokens t) {
        TreeSet<Integer> face = new TreeSet<>();
        for (int row = 0; row < h; row++) {
            if (row > 0) {
                t.sign(",");
            }
            int bits = t.number(0, (int) Math.pow(2, w) - 1);
            for (int col = 0; col < w; col++) {
                if (bits / (int) Math.pow(2, col) % 2 == 1) {
                    face.add(row * w + col);
                }
            }
        }
        faces.add(face);
    }

    int fault() {
        return faultAt;
    }

    // ---- how it runs, what shows

    private void rain(State s, int n) {
        for (int x : s.leaks) {
            s.wet[x / w][x % w] = Math.min(9, s.wet[x / w][x % w] + n);
        }
        State ahead = s.copy();
        int[][] next = new int[h][w];
        for (int r = 0; r < h; r++) {
            for (int c = 0; c < w; c++) {
                int left = ahead.wet[r][c];
                for (int to : given(ahead, r, c)) {
                    if (left > 0) {
                        left--;
                        next[to / w][to % w]++;
                    }
                }
                next[r][c] += left;
            }
        }
        for (int r = 0; r < h; r++) {
            for (int c = 0; c < w; c++) {
                s.wet[r][c] = Math.max(0, Math.min(9, next[r][c]) - (n == 0 ? 1 : 0));
            }
        }
        s.days++;
    }

    /** The cells to which one would give, in their order. */
    private List<Integer> given(State s, int r, int c) {
        List<Integer> to = new ArrayList<>();
        if (r + 1 < h && s.wet[r][c] >= 2) {
            to.add((r + 1) * w + c);
        }
        int beside = s.wind == 1 ? c - 1 : s.wind == 2 ? c + 1 : -1;
        if (beside >= 0 && beside < w && s.wet[r][c] >= 4) {
            to.add(r * w + beside);
        }
        for (int k = 0; k < cracks.size(); k++) {
            int[] crack = cracks.get(k);
            int me = r * w + c;
            if (s.filled.contains(k) || crack[0] != me && crack[1] != me) {
                continue;
            }
            int other = crack[0] == me ? crack[1] : crack[0];
            if (s.wet[r][c] >= s.wet[other / w][other % w] + 2) {
                to.add(other);
            }
        }
        return to;
    }

    private static boolean shows(State s, int r, int c) {
        return r >= 0 && r < s.wet.length && c >= 0 && c < s.wet[r].length && s.wet[r][c] > 2;
    }

    private static int besides(State s, int r, int c) {
        int[][] sides = {{0, 1}, {1, 0}, {0, -1}, {-1, 0}};
        int sum = 0;
        for (int[] side : sides) {
            sum += shows(s, r + side[0], c + side[1]) ? 1 : 0;
        }
        return sum;
    }

    private void lookAt(State s) {
        State ahead = s.copy();
        for (int r = 0; r < h; r++) {
            for (int c = 0; c < w; c++) {
                if (shows(ahead, r, c) && besides(ahead, r, c) < 2) {
                    s.wet[r][c] -= 2;
                }
            }
        }
        s.looks++;
    }

    private TreeSet<Integer> marks(State s) {
        TreeSet<Integer> marks = new TreeSet<>();
        for (int x = 0; x < h * w; x++) {
            if (shows(s, x / w, x % w)) {
                marks.add(x);
            }
        }
        return marks;
    }

    private static int bits(Iterable<Integer> members) {
        int set = 0;
        for (int member : members) {
            set += 1 << member;
        }
        return set;
    }

    private int like(State s, TreeSet<Integer> face) {
        int like = 0;
        for (int x = 0; x < h * w; x++) {
            like += marks(s).contains(x) == face.contains(x) ? 1 : 0;
        }
        return like;
    }

    private TreeSet<Integer> mayBe(State s) {
        TreeSet<Integer> may = new TreeSet<>();
        for (int f = 0; f < faces.size(); f++) {
            if (faces.get(f).containsAll(marks(s))) {
                may.add(f);
            }
        }
        return may;
    }

    private List<TreeSet<Integer>> groups() {
        List<TreeSet<Integer>> groups = new ArrayList<>();
        TreeSet<Integer> left = marks(now);
        while (!left.isEmpty()) {
            TreeSet<Integer> group = new TreeSet<>();
            hang(left.first(), left, group);
            groups.add(group);
        }
        return groups;
    }

    private void hang(int x, TreeSet<Integer> left, TreeSet<Integer> group) {
        if (!left.remove(x)) {
            return;
        }
        group.add(x);
        if (x % w > 0) {
            hang(x - 1, left, group);
        }
        if (x % w < w - 1) {
            hang(x + 1, left, group);
        }
        hang(x - w, left, group);
        hang(x + w, left, group);
    }

    // ---- the wall

    int told(int what) {
        switch (what) {
            case 0: return h;
            case 1: return w;
            case 2: return now.leaks.size();
            case 3: return cracks.size();
            case 4: return faces.size();
            case 5: return text.length();
            case 6: return now.days;
            case 7: return now.wind;
            case 8: return bits(marks(now));
            case 9: return bits(now.filled);
            case 10: return now.looks;
            case 11: return now.brushes;
            case 12: return allWet(now);
            case 13: return whom();
            case 14: return bits(mayBe(now));
            case 15: return groups().size();
            case 16: return greatest();
            case 17: return border();
            case 18: return fullest();
            case 19: return book.size();
            case 20: return past.size();
            default: return OUTSIDE;
        }
    }

    private static int allWet(State s) {
        return Arrays.stream(s.wet).flatMapToInt(Arrays::stream).sum();
    }

    private int whom() {
        int whom = NONE;
        for (int f = faces.size() - 1; f >= 0; f--) {
            if (whom == NONE || like(now, faces.get(f)) >= like(now, faces.get(whom))) {
                whom = f;
            }
        }
        return whom;
    }

    private int greatest() {
        TreeSet<Integer> greatest = new TreeSet<>();
        for (TreeSet<Integer> group : groups()) {
            boolean least = !greatest.isEmpty() && group.first() < greatest.first();
            if (group.size() > greatest.size() || group.size() == greatest.size() && least) {
                greatest = group;
            }
        }
        return bits(greatest);
    }

    private int border() {
        int sum = 0;
        for (int x : marks(now)) {
            sum += 4 - besides(now, x / w, x % w);
        }
        return sum;
    }

    private int fullest() {
        int[] rows = new int[h];
        for (int x : marks(now)) {
            rows[x / w]++;
        }
        int most = Arrays.stream(rows).max().orElse(0);
        for (int r = 0; r < h; r++) {
            if (most > 0 && rows[r] == most) {
                return r;
            }
        }
        return NONE;
    }

    private boolean hasCell(int x) {
        return x >= 0 && x < h * w;
    }

    private static boolean has(List<?> list, int k) {
        return k >= 0 && k < list.size();
    }

    int cell(int x) {
        return hasCell(x) ? now.wet[x / w][x % w] : UNKNOWN;
    }

    int leak(int l) {
        return has(now.leaks, l) ? now.leaks.get(l) : UNKNOWN;
    }

    int crack(int c, int what) {
        if (!has(cracks, c)) {
            return UNKNOWN;
        }
        if (what < 0 || what > 2) {
            return OUTSIDE;
        }
        return what == 2 ? (now.filled.contains(c) ? 1 : 0) : cracks.get(c)[what];
    }

    int likeness(int f, int what) {
        if (!has(faces, f)) {
            return UNKNOWN;
        }
        if (what < 0 || what > 2) {
            return OUTSIDE;
        }
        TreeSet<Integer> foreign = marks(now);
        foreign.removeAll(faces.get(f));
        return what == 0 ? bits(faces.get(f)) : what == 1 ? like(now, faces.get(f)) : foreign.size();
    }

    // ---- what is done

    private void remember() {
        past.addLast(now.copy());
        if (past.size() > 16) {
            past.removeFirst();
        }
    }

    int day(int n, int r) {
        if (n < 1 || n > 60 || r < 0 || r > 9) {
            return OUTSIDE;
        }
        if (h == 0) {
            return NOT;
        }
        if (now.days > 9000) {
            return FULL;
        }
        remember();
        for (int k = 0; k < n; k++) {
            rain(now, r);
        }
        return marks(now).size();
    }

    int look() {
        if (h == 0) {
            return NOT;
        }
        remember();
        lookAt(now);
        return marks(now).size();
    }

    int brush(int x) {
        if (!hasCell(x)) {
            return UNKNOWN;
        }
        remember();
        int was = cell(x);
        now.wet[x / w][x % w] = 0;
        now.brushes++;
        return was;
    }

    int lead(int l, int x) {
        if (!has(now.leaks, l) || !hasCell(x)) {
            return UNKNOWN;
        }
        remember();
        return now.leaks.set(l, x);
    }

    int wind(int n) {
        if (n < 0 || n > 2) {
            return OUTSIDE;
        }
        if (h == 0) {
            return NOT;
        }
        remember();
        int was = now.wind;
        now.wind = n;
        return was;
    }

    int fill(int c, boolean is) {
        if (!has(cracks, c)) {
            return UNKNOWN;
        }
        remember();
        boolean was = now.filled.contains(c);
        if (is) {
            now.filled.add(c);
        } else {
            now.filled.remove(c);
        }
        return was ? 1 : 0;
    }

    private int draw(int n) {
        seed = (seed * 1103515245L + 12345L) % (1L << 31);
        return (int) (seed / 65536 % n);
    }

    int drift(int n) {
        if (n < 1 || n > 60) {
            return OUTSIDE;
        }
        if (h == 0) {
            return NOT;
        }
        if (now.days > 9000) {
            return FULL;
        }
        remember();
        for (int k = 0; k < n; k++) {
            rain(now, draw(10));
            int turn = draw(6);
            if (turn == 0) {
                lookAt(now);
            }
            if (turn == 1) {
                now.wind = draw(3);
            }
            if (turn == 2 && !now.leaks.isEmpty()) {
                int l = draw(now.leaks.size());
                now.leaks.set(l, draw(h * w));
            }
        }
        return marks(now).size();
    }

    int undo() {
        if (past.isEmpty()) {
            return NOT;
        }
        now = past.removeLast();
        return past.size();
    }

    // ---- tried

    private State behind(State from, int n, int r) {
        State s = from.copy();
        for (int k = 0; k < n; k++) {
            rain(s, r);
        }
        return s;
    }

    int shown(int n, int r) {
        if (n < 0 || n > 60 || r < 0 || r > 9) {
            return OUTSIDE;
        }
        return h == 0 ? NOT : bits(marks(behind(now, n, r)));
    }

    int first(int m, int r) {
        if (m < 0 || m > 25 || r < 0 || r > 9) {
            return OUTSIDE;
        }
        if (h == 0) {
            return NOT;
        }
        State s = now.copy();
        for (int k = 0; k <= 60; k++, rain(s, r)) {
            if (marks(s).size() >= m) {
                return k;
            }
        }
        return NONE;
    }

    int leadTo(int l, int f, int n, int r, int what) {
        if (!has(now.leaks, l) || !has(faces, f)) {
            return UNKNOWN;
        }
        if (n < 1 || n > 20 || r < 0 || r > 9 || what < 0 || what > 1) {
            return OUTSIDE;
        }
        int[] like = new int[h * w];
        for (int x = 0; x < like.length; x++) {
            State s = now.copy();
            s.leaks.set(l, x);
            like[x] = like(behind(s, n, r), faces.get(f));
        }
        int most = Arrays.stream(like).max().getAsInt();
        int least = 0;
        while (like[least] != most) {
            least++;
        }
        return what == 0 ? least : most;
    }

    int often(int n, int r, int m, int what) {
        if (n < 1 || n > 8 || r < 0 || r > 9 || m < 0 || m > 25 || what < 0 || what > 1) {
            return OUTSIDE;
        }
        if (h == 0) {
            return NOT;
        }
        for (int looks = n; looks >= 0; looks--) {
            for (int days = 0; days < 1 << n; days++) {
                if (Integer.bitCount(days) == looks && goesOn(n, r, m, days)) {
                    return what == 0 ? looks : days;
                }
            }
        }
        return NONE;
    }

    private boolean goesOn(int n, int r, int m, int days) {
        State s = now.copy();
        for (int k = 0; k < n; k++) {
            rain(s, r);
            if ((days & 1 << k) != 0) {
                lookAt(s);
            }
        }
        return marks(s).size() >= m;
    }

    int wasRain(int set) {
        if (set < 0 || set >= 1 << h * w) {
            return UNKNOWN;
        }
        if (h == 0) {
            return NOT;
        }
        TreeSet<Integer> rains = new TreeSet<>();
        for (int r = 0; r <= 9; r++) {
            if (shown(1, r) == set) {
                rains.add(r);
            }
        }
        return bits(rains);
    }

    int rainToTell(int what) {
        if (what < 0 || what > 1) {
            return OUTSIDE;
        }
        if (h == 0) {
            return NOT;
        }
        for (int left = 0; left <= 5; left++) {
            for (int r = 0; r <= 9; r++) {
                if (mayBe(behind(now, 1, r)).size() == left) {
                    return what == 0 ? r : left;
                }
            }
        }
        throw new IllegalStateException();
    }

    int dryIn() {
        if (h == 0) {
            return NOT;
        }
        for (int k = 0; k <= 60; k++) {
            if (allWet(behind(now, k, 0)) == 0) {
                return k;
            }
        }
        return NONE;
    }

    int either(int f, int g, int what) {
        if (!has(faces, f) || !has(faces, g)) {
            return UNKNOWN;
        }
        if (what < 0 || what > 1) {
            return OUTSIDE;
        }
        TreeSet<Integer> unlike = new TreeSet<>();
        int asFirst = 0;
        for (int x = 0; x < h * w; x++) {
            if (faces.get(f).contains(x) != faces.get(g).contains(x)) {
                unlike.add(x);
                asFirst += faces.get(f).contains(x) == marks(now).contains(x) ? 1 : 0;
            }
        }
        return what == 0 ? bits(unlike) : asFirst;
    }

    int rainy(int n, int q) {
        if (n < 0 || n > 60 || q < 0 || q > 100) {
            return OUTSIDE;
        }
        return n == 0 ? 1000000000 : (int) ((long) rainy(n - 1, q) * q / 100);
    }

    // ---- the book

    int write(int x, int wet) {
        if (!hasCell(x)) {
            return UNKNOWN;
        }
        if (wet < 0 || wet > 9) {
            return OUTSIDE;
        }
        if (book.size() == 15) {
            return FULL;
        }
        book.add(new int[] {x, wet});
        return book.size();
    }

    int tear() {
        int had = book.size();
        book.clear();
        return had;
    }

    int judge() {
        for (int[] entry : book) {
            if (cell(entry[0]) != entry[1]) {
                return book.indexOf(entry);
            }
        }
        return NONE;
    }

    // ---- draws, images

    int seed(int v) {
        if (v < 0) {
            return OUTSIDE;
        }
        int was = (int) seed;
        seed = v;
        return was;
    }

    int keep(int i) {
        if (i != 0 && i != 1) {
            return UNKNOWN;
        }
        images.put(i, now.copy());
        imageSeeds.put(i, seed);
        past.clear();
        return 1;
    }

    int goBack(int i) {
        if (i != 0 && i != 1) {
            return UNKNOWN;
        }
        if (!images.containsKey(i)) {
            return NOT;
        }
        now = images.get(i).copy();
        seed = imageSeeds.get(i);
        past.clear();
        return 1;
    }
}
