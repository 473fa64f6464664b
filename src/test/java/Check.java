/** Counts the answers that are not as due; what all tests share. */
final class Check {
  private int asked;
  private int wrong;

  void due(String call, long want, long got) {
    asked++;
    if (got != want) {
      wrong++;
      System.out.println(call + " answered " + got + ", due is " + want);
    }
  }

  void end() {
    System.out.println(asked + " answers, " + wrong + " not as due");
    if (wrong != 0 || asked == 0) {
      System.exit(1);
    }
  }

  static void write(LentQuill x, String text) {
    for (int i = 0; i < text.length(); i++) {
      x.letter(text.charAt(i));
    }
  }

  static LentQuill townOf(String text) {
    LentQuill x = new LentQuill();
    write(x, text);
    if (x.town() < 0) {
      throw new IllegalStateException("no town: " + text);
    }
    return x;
  }

  /** Lends one pen to each of these in turn; every lending must be taken. */
  static void lendAll(LentQuill x, int pen, int... to) {
    for (int one : to) {
      if (x.lend(pen, one) < 0) {
        throw new IllegalStateException("pen " + pen + " not lent to " + one);
      }
    }
  }

  /** Lends one pen to and fro between two people, so many times in all. */
  static void lendToAndFro(LentQuill x, int pen, int other, int times) {
    for (int i = 0; i < times; i++) {
      lendAll(x, pen, i % 2 == 0 ? other : pen);
    }
  }
}
