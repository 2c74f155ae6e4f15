import java.io.IOException;
import java.nio.file.Files;
import java.nio.file.Path;

/**
 * A part of the document. Each test of an edge quotes the sentence that it holds the class to; a quote
 * that doesn't stand there is wrong, and so is a sentence of the part that no test quotes.
 */
final class Doc {
  private static final Path PLACE = Path.of("../shared/DOC.md");
  private final String name;
  /** Empty where the document isn't at hand: the tests run all the same. */
  private final String part;
  private final boolean[] quoted;

  private Doc(String name, String part) {
    this.name = name;
    this.part = part.replaceAll("```(text)?", " ").replaceAll("\\s+", " ");
    quoted = new boolean[this.part.length()];
  }

  /** From the first place where a text stands to the next one where another stands. */
  static Doc part(String from, String to) {
    String all = whole();
    int start = all.indexOf(from);
    int end = start < 0 ? -1 : all.indexOf(to, start);
    if (!all.isEmpty()) Check.that("in the document: " + from + " .. " + to, end >= 0);
    return new Doc(from, end < 0 ? "" : all.substring(start, end));
  }

  /** What stands of a promise behind the call's head. */
  static Doc promise(int n) {
    String heading = "## Promise " + n + ":";
    String all = whole();
    int start = all.indexOf(heading);
    int head = start < 0 ? -1 : all.indexOf("`: ", start);
    int end = head < 0 ? -1 : all.indexOf("\n## ", head);
    if (!all.isEmpty()) Check.that("in the document: " + heading, end >= 0);
    return new Doc("promise " + n, end < 0 ? "" : all.substring(head + 3, end));
  }

  private static String whole() {
    try {
      return Files.isReadable(PLACE) ? Files.readString(PLACE) : "";
    } catch (IOException e) {
      return "";
    }
  }

  /** Runs the test of a sentence. */
  Doc says(String quote, Runnable test) {
    if (!part.isEmpty()) Check.that(name + " doesn't say: " + quote, quote(quote));
    int before = Check.told();
    Check.about = quote;
    test.run();
    Check.about = "";
    Check.that("a test that asks nothing: " + quote, Check.told() > before);
    return this;
  }

  /** A sentence may stand there more than once: the first one that isn't quoted yet is. */
  private boolean quote(String quote) {
    int last = -1;
    for (int at = part.indexOf(quote); at >= 0; at = part.indexOf(quote, at + 1)) {
      last = at;
      if (!allQuoted(at, at + quote.length())) break;
    }
    for (int i = 0; last >= 0 && i < quote.length(); i++) quoted[last + i] = true;
    return last >= 0;
  }

  private boolean allQuoted(int from, int to) {
    for (int i = from; i < to; i++) if (!quoted[i]) return false;
    return true;
  }

  /** All of the part must be quoted by now. */
  void end() {
    StringBuilder rest = new StringBuilder();
    for (int i = 0; i < quoted.length; i++) rest.append(quoted[i] ? '\n' : part.charAt(i));
    String left = rest.toString().replaceAll("==== \\d\\.", "").replaceAll("\\s*\n[\\s\n]*", " | ");
    Check.that(name + ", quoted by no test: " + left, !left.matches(".*[A-Za-z0-9].*"));
  }
}
