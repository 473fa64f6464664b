/** Towns for the tests. Every step must be taken: a refusal there would make a test worthless. */
final class Towns {
  private Towns() {
  }

  static void write(LentQuill x, String text) {
    for (int i = 0; i < text.length(); i++) {
      taken("letter", x.letter(text.charAt(i)));
    }
  }

  static LentQuill written(String text) {
    LentQuill x = new LentQuill();
    write(x, text);
    return x;
  }

  static LentQuill of(String text) {
    LentQuill x = written(text);
    taken("town " + text, x.town());
    return x;
  }

  static void readAnother(LentQuill x, String text) {
    x.blank();
    write(x, text);
    taken("town " + text, x.town());
  }

  /** Lends one pen to each of these in turn. */
  static void lend(LentQuill x, int pen, int... to) {
    for (int one : to) {
      taken("lend", x.lend(pen, one));
    }
  }

  /** Lends one pen from its owner to another one and back, so many times in all. */
  static void lendToAndFro(LentQuill x, int pen, int other, int times) {
    for (int i = 0; i < times; i++) {
      lend(x, pen, i % 2 == 0 ? other : pen);
    }
  }

  static LentQuill worn(String text, int pen, int other, int times) {
    LentQuill x = of(text);
    lendToAndFro(x, pen, other, times);
    return x;
  }

  static void sign(LentQuill x, int pen, int... debts) {
    for (int debt : debts) {
      taken("sign", x.sign(pen, debt));
    }
  }

  static void free(LentQuill x, int deed, int... people) {
    for (int person : people) {
      taken("free", x.free(deed, person));
    }
  }

  /** Five people of all kinds; deeds (one void), things heard, an image, letters on the page. */
  static LentQuill busy() {
    LentQuill x = of("p3,t2,y4,a5,p1;3");
    lend(x, 0, 1, 4);
    lend(x, 2, 0);
    lend(x, 4, 3);
    sign(x, 0, 5);
    sign(x, 2, 7);
    free(x, 1, 0);
    taken("hear", x.hear(1, true));
    taken("image", x.image());
    taken("way", x.way(1, 2, 0));
    lend(x, 2, 4);
    taken("hear", x.hear(3, false));
    write(x, "p1,");
    return x;
  }

  /** Two people, where there were five before. */
  static LentQuill smallAfterBusy() {
    LentQuill x = busy();
    readAnother(x, "p3,p4;2");
    lend(x, 0, 1);
    sign(x, 0, 5);
    return x;
  }

  private static void taken(String call, int answer) {
    if (answer < 0) {
      throw new IllegalStateException(call + " was refused: " + answer);
    }
  }
}
