import java.io.IOException;
import java.nio.file.Files;
import java.nio.file.Path;
import java.util.ArrayList;
import java.util.List;
import java.util.Set;

/**
 * One test for each sentence of the document that names a boundary case, and a look through the
 * document for sentences that have none.
 */
public final class BoundsTest {
    /** Sentences that name no boundary case of their own; other tests hold them. */
    private static final Set<String> PLAIN = Set.of(
        "or and and look at both sides always, of if just the SUM that is chosen is asked",
        "The constants: `NONE = -1`: None");

    public static void main(String[] args) throws IOException {
        Bounds.runAll(BoundsOfSite.class);
        Bounds.runAll(BoundsOfTexts.class);
        Bounds.runAll(BoundsOfSets.class);
        Bounds.runAll(BoundsOfCalls.class);
        lookThrough(Files.readString(Path.of(System.getProperty("shared", "../shared"), "DOC.md")));
        System.out.println(Bounds.tested().size() + " sentences, " + Bounds.asked() + " answers, "
                + Bounds.wrong() + " not as due");
        if (Bounds.wrong() != 0) {
            System.exit(1);
        }
    }

    private static void lookThrough(String document) {
        List<Bounds.Tested> unseen = new ArrayList<>(Bounds.tested());
        int from = Math.max(0, document.indexOf("An object is used for"));
        int to = document.indexOf("## Not promised");
        String[] parts = document.substring(from, to < 0 ? document.length() : to).split("(?m)^## Promise \\d+: .*$");
        for (int promise = 0; promise < parts.length; promise++) {
            for (String sentence : sentences(parts[promise])) {
                lookAt(promise, sentence, unseen);
            }
        }
        for (Bounds.Tested test : unseen) {
            Bounds.complain("the document does not say under " + test.promise() + ": " + test.words());
        }
    }

    private static void lookAt(int promise, String sentence, List<Bounds.Tested> unseen) {
        unseen.removeIf(t -> t.promise() == promise && sentence.contains(t.words()));
        boolean has = Bounds.tested().stream().anyMatch(t -> t.promise() == promise && sentence.contains(t.words()));
        if (!has && !PLAIN.contains(sentence)) {
            Bounds.complain("no test under " + promise + " for: " + sentence);
        }
    }

    /** A full stop behind another one (as in 1, 2, 4, ..) ends no sentence. */
    private static List<String> sentences(String part) {
        String plain = part.replaceAll("(?s)```java.*?```", "").replace("```text", "").replace("```", "")
                .replaceAll("(?m)^#.*$", "").replaceAll("(?m)^==== [IV]+\\. ", "");
        List<String> out = new ArrayList<>();
        for (String line : plain.split("\n")) {
            for (String sentence : line.trim().split("(?<!\\.)\\.(\\s+|$)")) {
                if (!sentence.isBlank()) {
                    out.add(sentence.trim());
                }
            }
        }
        return out;
    }
}
