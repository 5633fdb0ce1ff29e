import java.io.IOException;
import java.nio.file.Files;
import java.nio.file.Path;
import java.util.ArrayList;
import java.util.LinkedHashMap;
import java.util.List;
import java.util.Map;

/** The sentences of the document, head by head, and which of them are quoted by a test. */
final class Document {
    private static final class Sentence {
        final String words;
        boolean quoted = false;

        Sentence(String words) {
            this.words = words;
        }
    }

    private final Map<String, List<Sentence>> heads = new LinkedHashMap<>();
    private final boolean there;

    Document(Path file) throws IOException {
        there = Files.isReadable(file);
        if (!there) {
            System.out.println("no document at " + file + ": the words of the tests are not compared with it");
            return;
        }
        String head = "";
        for (String line : Files.readAllLines(file)) {
            if (line.startsWith("## ")) {
                head = line.substring(3).replaceFirst(":.*", "");
                heads.put(head, new ArrayList<>());
            } else if (heads.containsKey(head)) {
                addSentences(heads.get(head), line.strip());
            }
        }
    }

    private static void addSentences(List<Sentence> sentences, String line) {
        // The order of the calls in the interface is the only thing that these lines tell.
        if (line.startsWith("Ahead of the calls")) {
            return;
        }
        // "Text." and such words ahead of a paragraph tell nothing by themselves.
        for (String words : line.replaceFirst("^[A-Za-z0-9]+\\. ", "").split("(?<=\\.) ")) {
            if (!words.isEmpty()) {
                sentences.add(new Sentence(words));
            }
        }
    }

    /** Marks the sentences with these words under this head; returns whether there are any, or no document. */
    boolean quote(String head, String words) {
        boolean found = !there;
        for (Sentence sentence : heads.getOrDefault(head, List.of())) {
            if (sentence.words.contains(words)) {
                sentence.quoted = true;
                found = true;
            }
        }
        return found;
    }

    /** The sentences of the terms and of the promises that no test has quoted. */
    List<String> unquoted() {
        List<String> left = new ArrayList<>();
        for (String head : heads.keySet()) {
            for (Sentence sentence : heads.get(head)) {
                if (!sentence.quoted && (head.equals("Terms") || head.startsWith("Promise "))) {
                    left.add(head + ": " + sentence.words);
                }
            }
        }
        return left;
    }
}
