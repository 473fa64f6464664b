import java.io.IOException;
import java.io.UncheckedIOException;
import java.nio.file.Files;
import java.nio.file.Path;

/** The words of ../shared/DOC.md, in one line each, so that a test can name those that it holds. */
final class Document {
  private static final Path PLACE = Path.of("..", "shared", "DOC.md");

  private Document() {
  }

  /** What a promise says behind the call that it is about. */
  static String promise(int number) {
    String section = between("## Promise " + number + ":", "\n## ");
    return oneLine(section.substring(section.indexOf("`: ") + 3));
  }

  /** What all promises share: the rules of "What it is", behind its story, and the "Terms". */
  static String terms() {
    String rules = between("1 A TOWN is a text", "\n## ");
    return "A TOWN is a text" + oneLine(rules) + " "
        + oneLine(between("## Terms", "\nAhead of the calls"));
  }

  private static String between(String start, String end) {
    String text = whole();
    int from = text.indexOf(start);
    int to = text.indexOf(end, from + start.length());
    if (from < 0 || to < 0) {
      throw new IllegalStateException("the document has no part from '" + start + "'");
    }
    return text.substring(from + start.length(), to);
  }

  private static String oneLine(String text) {
    return text.replaceAll("```(text)?", " ").replaceAll("======== \\d", " ")
        .replaceAll("\\s+", " ").trim();
  }

  private static String whole() {
    try {
      return Files.readString(PLACE);
    } catch (IOException e) {
      throw new UncheckedIOException(e);
    }
  }
}
