import java.util.List;
import java.util.Map;
import java.util.TreeSet;

/** Each boundary case of the document: what it answers, and that each sentence with one has a test of its own. */
public final class EdgesTest {
    /** Sentences without a boundary case: how the document speaks, and where comments stand in its interface. */
    private static final List<String> PLAIN = List.of("Words in capitals are told where they come first.", "Ahead of the calls ");

    public static void main(String[] args) {
        Check check = new Check("EdgesTest");
        List<Edge> edges = Edges.all();
        TreeSet<String> names = new TreeSet<>();
        for (Edge edge : edges) {
            Check one = edge.run(false);
            check.add(one);
            check.due(edge.name() + ": asks something", one.asked() > 0 ? 1 : 0, 1);
            check.due(edge.name() + ": is there once", names.add(edge.name()) ? 1 : 0, 1);
        }
        quotes(check, edges);
        System.out.println("EdgesTest: " + edges.size() + " edges");
        check.finish();
    }

    private static void quotes(Check check, List<Edge> edges) {
        Map<String, List<String>> doc = new Doc().sentences;
        check.due("places in the document", doc.size(), 4 + 32);
        TreeSet<String> held = new TreeSet<>();
        for (Edge edge : edges) {
            int found = 0;
            for (String sentence : doc.getOrDefault(edge.where(), List.of())) {
                if (sentence.contains(edge.words())) {
                    found++;
                    held.add(edge.where() + sentence);
                }
            }
            check.due(edge.name() + ": sentences with these words", found, 1);
        }
        doc.forEach((where, sentences) -> {
            for (String sentence : sentences) {
                boolean plain = PLAIN.stream().anyMatch(sentence::startsWith);
                check.due(where + ", \"" + sentence + "\" has a test", held.contains(where + sentence) || plain ? 1 : 0, 1);
            }
        });
    }
}
