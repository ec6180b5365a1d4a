import java.lang.reflect.Method;
import java.nio.file.Files;
import java.nio.file.Path;
import java.util.ArrayList;
import java.util.List;

/**
 * No sentence of ../shared/DOC.md that binds an answer is without a test of its own: what the tests of
 * Edge..Tests hold (Holds) stands there word by word, and leaves no word of a promise over.
 */
public final class DocumentTests {
  private static final int PROMISES = 43;
  private static final Due due = new Due();

  public static void main(String[] args) throws Exception {
    due.holds("all tests of sentences are known", allAreKnown());
    Path file = Path.of(System.getProperty("project.root", "."), "../shared/DOC.md");
    if (Files.exists(file)) {
      lookThrough(Files.readString(file));
    } else {
      System.out.println("no document here: what the tests hold is not looked up");
    }
    due.end();
  }

  private static void lookThrough(String document) {
    leavesNoneOver(0, terms(document));
    for (int promise = 1; promise <= PROMISES; promise++) {
      leavesNoneOver(promise, promise(document, promise));
    }
    due.is("a promise behind the last", document.indexOf("## Promise " + (PROMISES + 1) + ":"), -1);
  }

  /** Every Edge..Tests beside this one is in the list that is looked at. */
  private static boolean allAreKnown() throws Exception {
    Path folder = Path.of(System.getProperty("project.root", "."), "src/test/java");
    boolean all = true;
    try (var files = Files.list(folder)) {
      for (Path path : (Iterable<Path>) files::iterator) {
        String name = path.getFileName().toString();
        if (name.matches("Edge\\w+Tests\\.java")) {
          Class<?> tests = Class.forName(name.substring(0, name.length() - ".java".length()));
          all &= List.of(Edge.CLASSES).contains(tests) && !Edge.testsOf(tests).isEmpty();
        }
      }
    }
    return all;
  }

  private static String inOneLine(String text) {
    return text.replaceAll("\\s+", " ");
  }

  /** The words of a promise behind its call. */
  private static String promise(String document, int n) {
    int from = document.indexOf("## Promise " + n + ":");
    int call = document.indexOf("`: ", from);
    int to = document.indexOf("\n## ", from + 1);
    return from < 0 || call < 0 || to < call ? "" : inOneLine(document.substring(call + 3, to));
  }

  /**
   * The sentence on 512 calls, the Terms, and what the interface says in brackets; not the headings, the
   * order of the calls, the fences.
   */
  private static String terms(String document) {
    StringBuilder kept = new StringBuilder();
    boolean inTerms = false;
    for (String line : document.split("\n")) {
      inTerms = line.startsWith("## ") ? line.equals("## Terms") : inTerms;
      if (line.startsWith("An object is used")) {
        kept.append(line).append(' ');
      } else if (inTerms && line.startsWith("Ahead of the calls")) {
        int bracket = line.indexOf('(');
        kept.append(bracket < 0 ? "" : line.substring(bracket)).append(' ');
      } else if (inTerms && !line.startsWith("## ") && !line.startsWith("```")) {
        kept.append(line.replaceFirst("^=+ (ANSWERS\\.|\\d( LOTS:)?) ", "")).append(' ');
      }
    }
    return inOneLine(kept.toString());
  }

  private static void leavesNoneOver(int promise, String text) {
    due.holds("promise " + promise + " stands in the document", !text.isEmpty());
    boolean[] held = new boolean[text.length()];
    for (Class<?> tests : Edge.CLASSES) {
      for (Method m : Edge.testsOf(tests)) {
        Holds holds = m.getAnnotation(Holds.class);
        if (holds.promise() == promise) {
          for (String words : holds.words()) {
            mark(promise, m.getName(), text, words, held);
          }
        }
      }
    }
    for (String rest : restOf(text, held)) {
      due.holds("promise " + promise + ": a test holds '" + rest + "'", false);
    }
  }

  private static void mark(int promise, String test, String text, String words, boolean[] held) {
    int at = text.indexOf(words);
    due.holds("promise " + promise + ", " + test + ": the document says '" + words + "'", at >= 0);
    for (int i = 0; at >= 0 && i < words.length(); i++) {
      held[at + i] = true;
    }
  }

  /** What no test holds, but for commas, dots, brackets and words that only join. */
  private static List<String> restOf(String text, boolean[] held) {
    List<String> all = new ArrayList<>();
    StringBuilder rest = new StringBuilder();
    for (int i = 0; i <= text.length(); i++) {
      if (i < text.length() && !held[i]) {
        rest.append(text.charAt(i));
        continue;
      }
      String words = rest.toString().replaceAll("\\b(and|then|or)\\b", "").replaceAll("[^A-Za-z0-9]", "");
      if (!words.isEmpty()) {
        all.add(rest.toString());
      }
      rest.setLength(0);
    }
    return all;
  }
}
