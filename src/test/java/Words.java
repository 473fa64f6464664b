/** A text of the document, and which of its words tests have named. */
final class Words {
  private final String text;
  private final boolean[] named;

  Words(String text) {
    this.text = text;
    named = new boolean[text.length()];
  }

  /** Names these words wherever they stand; false if they do not. */
  boolean name(String words) {
    int from = text.indexOf(words);
    boolean found = from >= 0;
    while (from >= 0) {
      for (int i = from; i < from + words.length(); i++) {
        named[i] = true;
      }
      from = text.indexOf(words, from + 1);
    }
    return found;
  }

  /** The words that no test has named yet; empty if there are none. */
  String left() {
    StringBuilder left = new StringBuilder();
    for (int i = 0; i < named.length; i++) {
      boolean counts = !named[i] && Character.isLetterOrDigit(text.charAt(i));
      boolean gap = left.length() == 0 || left.charAt(left.length() - 1) == ' ';
      if (counts) {
        left.append(text.charAt(i));
      } else if (!gap) {
        left.append(' ');
      }
    }
    return left.toString().trim();
  }
}
