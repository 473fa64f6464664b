public final class Promise21ImageTest {
  public static void main(String[] args) {
    Promise promise = new Promise(21);
    hold(promise);
    promise.end();
  }

  static void hold(Promise promise) {
    howOftenLent(promise);
    theLatest(promise);
    imageChangesNothing(promise);
    noTown(promise);
  }

  private static void howOftenLent(Promise promise) {
    promise.says("how often any PEN was LENT.");
    LentQuill x = Towns.of("p1,p1,p1;2");
    promise.due("not lent", 0, x.image());
    Towns.lend(x, 0, 1);
    promise.due("lent once", 1, x.image());
    Towns.lend(x, 2, 1, 0);
    promise.due("lent three times, of two pens", 3, x.image());
    LentQuill most = Towns.of("p1,p1,p1,p1,p1;2");
    for (int pen = 0; pen < 5; pen++) {
      Towns.lendToAndFro(most, pen, (pen + 1) % 5, 40);
    }
    promise.due("all pens 40 times", 200, most.image());
    promise.due("and from the image", 200, most.restore());
  }

  private static void theLatest(Promise promise) {
    promise.says("An IMAGE is kept (one; the latest)");
    LentQuill x = Towns.of("p1,p1,p1;2");
    x.image();
    Towns.lend(x, 0, 1, 2);
    x.image();
    Towns.lend(x, 0, 1);
    promise.due("from the latest", 2, x.restore());
    promise.due("from the latest again", 2, x.restore());
    promise.due("who has pen 0", 2, x.had(0, 0));
  }

  private static void imageChangesNothing(Promise promise) {
    promise.says("An IMAGE is kept");
    LentQuill x = Towns.busy();
    x.image();
    promise.due("all stays", 1, Whole.now(x).equals(Whole.now(Towns.busy())) ? 1 : 0);
  }

  private static void noTown(Promise promise) {
    promise.says("STATE: no TOWN.");
    promise.refused("image()", LentQuill.STATE, LentQuill::new, LentQuill::image);
    promise.refused("image()", LentQuill.STATE, () -> Towns.written("p1,p1;2"), LentQuill::image);
  }
}
