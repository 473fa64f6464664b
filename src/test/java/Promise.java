import java.util.Set;
import java.util.TreeSet;
import java.util.function.Supplier;
import java.util.function.ToIntFunction;

/**
 * The test of one promise: it names the document's words, then asks what would be answered otherwise
 * if they were broken. In the end all words of the promise must have been named.
 */
final class Promise {
  /** A call with one number left open. */
  interface Asked {
    int of(LentQuill x, int number);
  }

  private static final String TERMS = Document.terms();

  private final int number;
  private final Words own;
  private final Check check = new Check();
  private final Set<String> broken = new TreeSet<>();
  private String words = "";

  Promise(int number) {
    this.number = number;
    own = new Words(Document.promise(number));
  }

  /** The answers that follow are due by these words, of the promise itself or of the terms. */
  void says(String said) {
    words = said;
    boolean stands = own.name(said) || TERMS.contains(said);
    due("the document says so", 1, stands ? 1 : 0);
  }

  void due(String call, long want, long got) {
    if (!check.due(number + ", \"" + words + "\": " + call, want, got)) {
      broken.add(words);
    }
  }

  /** A refusal, in each of the object's calls afterwards as if it had not been asked. */
  void refused(String call, int want, Supplier<LentQuill> made, ToIntFunction<LentQuill> asked) {
    LentQuill x = made.get();
    due(call, want, asked.applyAsInt(x));
    boolean same = Whole.of(x).equals(Whole.of(made.get()));
    due(call + " changes nothing", 1, same ? 1 : 0);
  }

  /** A refusal in a town where everything is in use. */
  void refused(String call, int want, ToIntFunction<LentQuill> asked) {
    refused(call, want, Towns::busy, asked);
  }

  /** Refuses numbers of people or pens that are not there, in a full town and in a small one. */
  void unknown(String call, Asked asked) {
    for (int number : new int[] {-1, 5, 32, Integer.MIN_VALUE, Integer.MAX_VALUE}) {
      refused(call + " of " + number, LentQuill.UNKNOWN, x -> asked.of(x, number));
    }
    for (int number : new int[] {2, 3, 4}) {
      refused(call + " of " + number + " of two", LentQuill.UNKNOWN, Towns::smallAfterBusy,
          x -> asked.of(x, number));
    }
    refused(call + " of 0 without a town", LentQuill.UNKNOWN, LentQuill::new, x -> asked.of(x, 0));
  }

  /** Refuses the numbers next to those that a call takes, and the farthest. */
  void outside(String call, int least, int most, Asked asked) {
    for (int number : new int[] {least - 1, most + 1, Integer.MIN_VALUE, Integer.MAX_VALUE}) {
      refused(call + " of " + number, LentQuill.OUTSIDE, x -> asked.of(x, number));
    }
  }

  /** The words under which an answer was not as due. */
  Set<String> broken() {
    return broken;
  }

  void end() {
    words = "";
    String left = own.left();
    due("words that no test names: '" + left + "'", 0, left.length());
    check.end();
  }
}
