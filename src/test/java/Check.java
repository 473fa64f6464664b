import java.util.ArrayList;
import java.util.List;

/** Counts the answers that are not as due; what all tests share. */
final class Check {
  private int asked;
  private final List<String> wrong = new ArrayList<>();

  /** Whether the answer was the one that is due. */
  boolean due(String call, long want, long got) {
    asked++;
    if (got != want) {
      wrong.add(call + " answered " + got + ", due is " + want);
    }
    return got == want;
  }

  void end() {
    for (String line : wrong) {
      System.out.println(line);
    }
    System.out.println(asked + " answers, " + wrong.size() + " not as due");
    if (!wrong.isEmpty() || asked == 0) {
      System.exit(1);
    }
  }
}
