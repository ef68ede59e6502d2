/**
 * A change to the source by which a sentence of the document would not hold.
 *
 * @param head the head of the method, as far as it is needed to find it; empty: all of the source
 * @param from the words to be changed: they stand just once under that head
 * @param to what stands there instead
 */
record Break(String head, String from, String to) {
    static Break in(String head, String from, String to) {
        return new Break(head, from, to);
    }

    /** For constants, whose words stand once in all of the source. */
    static Break of(String from, String to) {
        return new Break("", from, to);
    }

    static Break atStart(String head, String more) {
        return new Break(head, "", more);
    }

    @Override
    public String toString() {
        return (head.isEmpty() ? "" : "in " + head + ": ") + "[" + from + "] as [" + to + "]";
    }

    /** Comments and the ends of lines do not count, so that words can be told across lines. */
    static String plain(String source) {
        return source.replaceAll("(?s)/\\*.*?\\*/", "").replaceAll("//[^\n]*", "").replaceAll("\\s+", " ");
    }

    /** The plain source with this change. */
    String applyTo(String plain) {
        int start = 0;
        int end = plain.length();
        if (!head.isEmpty()) {
            int at = onlyPlace(plain, head, 0, end);
            start = plain.indexOf('{', at) + 1;
            end = endOfBlock(plain, start);
        }
        int at = from.isEmpty() ? start : onlyPlace(plain, from, start, end);
        return plain.substring(0, at) + to + plain.substring(at + from.length());
    }

    private int onlyPlace(String plain, String words, int start, int end) {
        int at = plain.indexOf(words, start);
        int again = at < 0 ? -1 : plain.indexOf(words, at + 1);
        if (at < 0 || at + words.length() > end || again >= 0 && again + words.length() <= end) {
            throw new IllegalStateException("[" + words + "] is not there just once: tell anew how to break it, " + this);
        }
        return at;
    }

    private static int endOfBlock(String plain, int start) {
        int open = 1;
        int at = start;
        while (open > 0 && at < plain.length()) {
            open += plain.charAt(at) == '{' ? 1 : plain.charAt(at) == '}' ? -1 : 0;
            at++;
        }
        return at;
    }
}
