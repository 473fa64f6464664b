public final class Promise23CountTest {
  public static void main(String[] args) {
    Promise promise = new Promise(23);
    hold(promise);
    promise.end();
  }

  static void hold(Promise promise) {
    people(promise);
    limits(promise);
    lendings(promise);
    deeds(promise);
    voidDeeds(promise);
    heard(promise);
    letters(promise);
    towns(promise);
    ways(promise);
    refusals(promise);
  }

  private static void people(Promise promise) {
    promise.says("How many: 0 PEOPLE");
    promise.due("no town", 0, new LentQuill().count(0));
    promise.due("no town yet", 0, Towns.written("p1,p1;2").count(0));
    promise.due("two", 2, Towns.of("p1,p1;2").count(0));
    promise.due("five", 5, Towns.of("p1,p1,p1,p1,p1;2").count(0));
  }

  private static void limits(Promise promise) {
    promise.says("1 LIMIT (0: no TOWN)");
    promise.due("no town", 0, new LentQuill().count(1));
    promise.due("the least", 1, Towns.of("p1,p1;1").count(1));
    promise.due("more than people", 5, Towns.of("p1,p1;5").count(1));
  }

  private static void lendings(Promise promise) {
    promise.says("2 how often any PEN was LENT");
    LentQuill x = Towns.of("p1,p1,p1,p1,p1;1");
    promise.due("never", 0, x.count(2));
    x.lend(0, 0);
    promise.due("a refused one", 0, x.count(2));
    for (int pen = 0; pen < 5; pen++) {
      Towns.lendToAndFro(x, pen, (pen + 2) % 5, 40);
      promise.due("pens lent 40 times", 40 * (pen + 1), x.count(2));
    }
  }

  private static void deeds(Promise promise) {
    promise.says("3 DEEDS");
    LentQuill x = Towns.of("p1,p1;1");
    for (int i = 0; i < 6; i++) {
      promise.due("deeds", i, x.count(3));
      Towns.sign(x, 0, 1);
    }
    promise.due("six", 6, x.count(3));
    x.sign(0, 1);
    promise.due("a refused one", 6, x.count(3));
  }

  private static void voidDeeds(Promise promise) {
    promise.says("4 DEEDS that are VOID");
    LentQuill x = Towns.of("p1,p1;1");
    Towns.sign(x, 0, 1, 1, 1, 1, 1, 1);
    for (int i = 0; i < 6; i++) {
      promise.due("void", i, x.count(4));
      Towns.free(x, i, 0);
    }
    promise.due("all six", 6, x.count(4));
    promise.due("they are deeds yet", 6, x.count(3));
  }

  private static void heard(Promise promise) {
    promise.says("5 what is HEARD");
    LentQuill x = Towns.of("p1,p1;1");
    for (int i = 0; i < 6; i++) {
      promise.due("heard", i, x.count(5));
      x.hear(0, i % 2 == 0);
    }
    x.hear(0, true);
    promise.due("six", 6, x.count(5));
  }

  private static void letters(Promise promise) {
    promise.says("6 letters of THE PAGE");
    LentQuill x = new LentQuill();
    for (int i = 0; i < 18; i++) {
      promise.due("letters", i, x.count(6));
      x.letter('?');
    }
    x.letter('?');
    promise.due("eighteen", 18, x.count(6));
  }

  private static void towns(Promise promise) {
    promise.says("7 how often a TOWN was read");
    LentQuill x = new LentQuill();
    for (int i = 0; i < 50; i++) {
      promise.due("towns", i, x.count(7));
      Towns.write(x, "p1,p1;1");
      x.town();
    }
    x.town();
    promise.due("fifty", 50, x.count(7));
  }

  private static void ways(Promise promise) {
    promise.says("8 how often way() was done.");
    LentQuill x = Towns.of("p1,p1;2");
    for (int i = 0; i < 40; i++) {
      promise.due("ways", i, x.count(8));
      x.way(0, i % 4, i % 2);
    }
    x.way(0, 0, 0);
    promise.due("forty", 40, x.count(8));
    LentQuill y = Towns.of("p1,p1;2");
    y.way(0, 3, 0);
    y.way(2, 3, 0);
    y.way(0, 4, 0);
    y.digest();
    promise.due("refused ones are not done", 1, y.count(8));
    Towns.readAnother(y, "p1,p1;2");
    promise.due("done in another town", 1, y.count(8));
  }

  private static void refusals(Promise promise) {
    promise.says("OUTSIDE.");
    promise.outside("count", 0, 8, LentQuill::count);
    promise.refused("count(9)", LentQuill.OUTSIDE, LentQuill::new, x -> x.count(9));
    promise.refused("count(-1)", LentQuill.OUTSIDE, LentQuill::new, x -> x.count(-1));
  }
}
