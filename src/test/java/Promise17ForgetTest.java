public final class Promise17ForgetTest {
  public static void main(String[] args) {
    Promise promise = new Promise(17);
    hold(promise);
    promise.end();
  }

  static void hold(Promise promise) {
    howMuchWas(promise);
    nothingAnyMore(promise);
    allElseStays(promise);
  }

  private static void howMuchWas(Promise promise) {
    promise.says("how much was.");
    promise.due("without a town", 0, new LentQuill().forget());
    LentQuill x = Towns.of("p1,p1;2");
    promise.due("nothing", 0, x.forget());
    for (int i = 0; i < 6; i++) {
      x.hear(0, true);
    }
    promise.due("six", 6, x.forget());
    promise.due("nothing again", 0, x.forget());
  }

  private static void nothingAnyMore(Promise promise) {
    promise.says("Nothing is HEARD any more");
    LentQuill x = Towns.of("p1,p1;2");
    x.hear(1, true);
    x.hear(0, false);
    promise.due("ways before", 0, x.hands(0, 0, 0));
    x.forget();
    promise.due("heard", 0, x.count(5));
    promise.due("ways", 1, x.hands(0, 0, 0));
    promise.due("the other's", 1, x.hands(1, 0, 0));
    promise.due("heard anew", 1, x.hear(1, false));
    promise.due("ways by that alone", 1, x.hands(0, 0, 0));
  }

  private static void allElseStays(Promise promise) {
    promise.says("Nothing is HEARD any more");
    LentQuill x = Towns.busy();
    x.forget();
    x.hear(1, true);
    x.hear(3, false);
    promise.due("all else stays", 1, Whole.of(x).equals(Whole.of(Towns.busy())) ? 1 : 0);
  }
}
