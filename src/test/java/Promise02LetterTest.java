public final class Promise02LetterTest {
  public static void main(String[] args) {
    Promise promise = new Promise(2);
    hold(promise);
    promise.end();
  }

  static void hold(Promise promise) {
    lettersComeBehind(promise);
    codesFrom32To126(promise);
    eighteenLetters(promise);
    outsideAheadOfFull(promise);
  }

  private static void lettersComeBehind(Promise promise) {
    promise.says("A letter comes behind THE PAGE, told by its code: how many THE PAGE has.");
    LentQuill x = new LentQuill();
    promise.due("the first", 1, x.letter('b'));
    promise.due("the second", 2, x.letter('p'));
    promise.due("the same again", 3, x.letter('p'));
    long h = Whole.mixed(967, 'b', 'p', 'p', 0, 0, 0, 0, 0, 0, 3, 0, 0);
    promise.due("in their order", h, x.digest());
    LentQuill y = Towns.of("p1,p1;2");
    promise.due("the first behind a town", 1, y.letter('p'));
  }

  private static void codesFrom32To126(Promise promise) {
    promise.says("OUTSIDE: code (32 to 126)");
    promise.outside("letter", 32, 126, LentQuill::letter);
    for (int code : new int[] {0, 10, -'p', 128 + 'p', 256 + 'p', 65536 + 'p'}) {
      promise.refused("letter(" + code + ")", LentQuill.OUTSIDE, x -> x.letter(code));
    }
    for (int code = 32; code <= 126; code++) {
      promise.due("letter(" + code + ")", 1, new LentQuill().letter(code));
    }
  }

  private static void eighteenLetters(Promise promise) {
    promise.says("FULL: above 18.");
    LentQuill x = new LentQuill();
    for (int i = 1; i <= 18; i++) {
      promise.due("letter " + i, i, x.letter('p'));
    }
    promise.due("letter 19", LentQuill.FULL, x.letter('p'));
    promise.due("letter 19 once more", LentQuill.FULL, x.letter('p'));
    x.blank();
    promise.due("the first of an empty page", 1, x.letter('p'));
    promise.refused("letter 19", LentQuill.FULL, Promise02LetterTest::fullPage, y -> y.letter('q'));
  }

  private static void outsideAheadOfFull(Promise promise) {
    promise.says("Refusals, of several the first as told by each call");
    promise.refused("letter(31)", LentQuill.OUTSIDE, Promise02LetterTest::fullPage,
        x -> x.letter(31));
    promise.refused("letter(127)", LentQuill.OUTSIDE, Promise02LetterTest::fullPage,
        x -> x.letter(127));
  }

  private static LentQuill fullPage() {
    LentQuill x = Towns.busy();
    Towns.write(x, "p1;1...........");
    return x;
  }
}
