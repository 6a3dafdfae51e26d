import java.io.IOException;
import java.nio.file.Files;
import java.nio.file.Path;
import java.util.ArrayList;
import java.util.List;

/** Each sentence of the document has a test of its own: all are run, and compared with the document's sentences. */
public final class SentencesTest {
  private static final Path DOCUMENT = Path.of("../shared/DOC.md");

  public static void main(String[] args) throws IOException {
    new DescriptionSentences().tellAll();
    new StartSentences().tellAll();
    new DeedSentences().tellAll();
    new AskedSentences().tellAll();
    if (Files.exists(DOCUMENT)) {
      compareWithDocument();
    } else {
      System.out.println("SentencesTest: there is no " + DOCUMENT + " to compare the sentences with");
    }
    Check.end("SentencesTest");
  }

  private static void compareWithDocument() throws IOException {
    List<String> due = sentences();
    for (String sentence : due) {
      Check.same("has a test: " + sentence, true, () -> Sentences.told().contains(sentence));
    }
    for (String sentence : Sentences.told()) {
      Check.same("is in the document: " + sentence, true, () -> due.contains(sentence));
    }
  }

  /** What promises something: the "Description", and of each promise all but its signature and plain arguments. */
  private static List<String> sentences() throws IOException {
    List<String> all = new ArrayList<>();
    String part = "";
    for (String line : Files.readAllLines(DOCUMENT)) {
      if (line.startsWith("## ")) {
        part = line.substring(3);
      } else if (part.startsWith("Promise ") && isPromising(line)) {
        int promise = Integer.parseInt(part.substring(8, part.indexOf(':')));
        addSentences(all, promise, line);
      } else if (part.equals("Description") && !line.startsWith("==")) {
        addSentences(all, Sentences.DESCRIPTION, line);
      } else if (part.equals("What it is") && line.startsWith("An object is used")) {
        addSentences(all, Sentences.DESCRIPTION, line);
      }
    }
    return all;
  }

  private static boolean isPromising(String line) {
    boolean isPlain = line.startsWith("`") || line.startsWith("---- ") || line.startsWith("- ");
    return !isPlain || line.startsWith("- `what`") || line.startsWith("- `steps`");
  }

  private static void addSentences(List<String> all, int promise, String line) {
    for (String sentence : line.trim().split("(?<=\\.)\\s+")) {
      if (!sentence.isEmpty() && !sentence.startsWith("The constructor and the methods follow")) {
        all.add(Sentences.keyOf(promise, sentence));
      }
    }
  }
}
