public final class Promise22RestoreTest {
  public static void main(String[] args) {
    Promise promise = new Promise(22);
    hold(promise);
    promise.end();
  }

  static void hold(Promise promise) {
    howOftenLent(promise);
    fullBooksGoOn(promise);
    goesOnFromTheImage(promise);
    notOfTheImage(promise);
    noneKept(promise);
    anotherTown(promise);
  }

  private static void howOftenLent(Promise promise) {
    promise.says("how often any PEN was LENT.");
    LentQuill x = Towns.of("p1,p1,p1;2");
    x.image();
    Towns.lend(x, 0, 1);
    promise.due("not lent then", 0, x.restore());
    Towns.lend(x, 0, 1);
    Towns.lend(x, 1, 2);
    x.image();
    Towns.lend(x, 2, 1);
    promise.due("lent twice then", 2, x.restore());
    promise.due("lent", 2, x.count(2));
  }

  private static void goesOnFromTheImage(Promise promise) {
    promise.says("An IMAGE keeps through whose HANDS all PENS have gone, DEEDS, how often any was LENT, HEARD.");
    LentQuill x = Towns.of("p1,p1,p1;2");
    Towns.lend(x, 0, 1);
    Towns.sign(x, 0, 4);
    x.hear(0, true);
    x.image();
    for (int again = 0; again < 2; again++) {
      Towns.lend(x, 0, 2);
      Towns.lend(x, 1, 2);
      Towns.sign(x, 1, 5);
      Towns.free(x, 0, 0);
      x.forget();
      x.hear(1, false);
      x.hear(2, true);
      promise.due("restore()", 1, x.restore());
      asInTheImage(promise, x);
    }
  }

  private static void asInTheImage(Promise promise, LentQuill x) {
    promise.due("who has pen 0", 1, x.had(0, 0));
    promise.due("who had it before", 0, x.had(0, 1));
    promise.due("not lent oftener", LentQuill.NONE, x.had(0, 2));
    promise.due("pen 1 was not lent", LentQuill.NONE, x.had(1, 1));
    promise.due("deeds", 1, x.count(3));
    promise.due("debt", 4, x.deed(0, 0));
    promise.due("bound by it", 3, x.deed(0, 1));
    promise.due("heard", 1, x.count(5));
    promise.due("0 is bound", 0, x.hands(2, 0, 0));
    promise.due("what was heard later does not hold", 1, x.hands(0, 0, 0));
  }

  private static void fullBooksGoOn(Promise promise) {
    promise.says("It goes on from the IMAGE");
    LentQuill x = Towns.of("p1,p1;2");
    Towns.lendToAndFro(x, 0, 1, 39);
    Towns.sign(x, 0, 1, 2, 3, 4, 5);
    for (int i = 0; i < 5; i++) {
      x.hear(0, true);
    }
    x.image();
    for (int again = 0; again < 2; again++) {
      promise.due("the 40th lending", 3, x.lend(0, 0));
      promise.due("the 41st", LentQuill.FULL, x.lend(0, 1));
      promise.due("the sixth deed", 5, x.sign(0, 6));
      promise.due("the seventh", LentQuill.FULL, x.sign(0, 7));
      promise.due("the sixth heard", 6, x.hear(0, true));
      promise.due("the seventh", LentQuill.FULL, x.hear(0, true));
      promise.due("restore()", 39, x.restore());
    }
  }

  private static void notOfTheImage(Promise promise) {
    promise.says("An IMAGE keeps through whose HANDS all PENS have gone, DEEDS, how often any was LENT, HEARD.");
    LentQuill x = Towns.of("p1,p1;2");
    x.image();
    Towns.write(x, "p1");
    x.way(0, 0, 0);
    x.restore();
    promise.due("letters", 2, x.count(6));
    promise.due("towns read", 1, x.count(7));
    promise.due("ways done", 1, x.count(8));
  }

  private static void noneKept(Promise promise) {
    promise.says("STATE: none was kept");
    promise.refused("restore() without a town", LentQuill.STATE, LentQuill::new, LentQuill::restore);
    promise.refused("restore()", LentQuill.STATE, () -> Towns.worn("p1,p1;2", 0, 1, 3),
        LentQuill::restore);
    LentQuill x = new LentQuill();
    x.image();
    Towns.readAnother(x, "p1,p1;2");
    promise.due("an image that was refused", LentQuill.STATE, x.restore());
  }

  private static void anotherTown(Promise promise) {
    promise.says("or there is another TOWN since.");
    LentQuill x = Towns.of("p1,p1;2");
    x.image();
    Towns.write(x, "p1,p1;");
    x.town();
    promise.due("a page that was none", 0, x.restore());
    Towns.write(x, "2");
    promise.due("written, not read", 0, x.restore());
    x.town();
    promise.due("of the same text", LentQuill.STATE, x.restore());
    promise.due("an image of it", 0, x.image());
    promise.due("from that", 0, x.restore());
    promise.refused("restore()", LentQuill.STATE, Towns::smallAfterBusy, LentQuill::restore);
  }
}
