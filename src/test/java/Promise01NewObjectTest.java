public final class Promise01NewObjectTest {
  public static void main(String[] args) {
    Promise promise = new Promise(1);
    hold(promise);
    promise.end();
  }

  static void hold(Promise promise) {
    noTown(promise);
    noPeople(promise);
    objectsAreApart(promise);
    fiveHundredAndTwelveCalls(promise);
  }

  private static void noTown(Promise promise) {
    promise.says("No TOWN.");
    LentQuill x = new LentQuill();
    for (int what = 0; what <= 8; what++) {
      promise.due("count(" + what + ")", 0, x.count(what));
    }
    promise.due("find(0)", LentQuill.STATE, x.find(0));
    promise.due("fairs(1, 0, 0)", LentQuill.STATE, x.fairs(1, 0, 0));
    promise.due("image()", LentQuill.STATE, x.image());
    promise.due("restore()", LentQuill.STATE, x.restore());
    promise.due("town()", LentQuill.STATE, x.town());
    promise.due("forget()", 0, x.forget());
    promise.due("fault()", 0, x.fault());
    promise.due("blank()", 0, x.blank());
    promise.due("deed(0, 0)", LentQuill.UNKNOWN, x.deed(0, 0));
    promise.due("digest()", Whole.mixed(967, 0, 0, 0, 0, 0, 0, 0, 0, 0), x.digest());
  }

  private static void noPeople(Promise promise) {
    promise.says("At first there is none.");
    LentQuill x = new LentQuill();
    for (int number = 0; number < 5; number++) {
      promise.due("about", LentQuill.UNKNOWN, x.about(number, 0));
      promise.due("as", LentQuill.UNKNOWN, x.as(number, number));
      promise.due("lend", LentQuill.UNKNOWN, x.lend(number, (number + 1) % 5));
      promise.due("had", LentQuill.UNKNOWN, x.had(number, 0));
      promise.due("sign", LentQuill.UNKNOWN, x.sign(number, 1));
      promise.due("free", LentQuill.UNKNOWN, x.free(0, number));
      promise.due("owes", LentQuill.UNKNOWN, x.owes(number, 0));
      promise.due("way", LentQuill.UNKNOWN, x.way(number, 0, 0));
      promise.due("hear", LentQuill.UNKNOWN, x.hear(number, true));
      promise.due("hands", LentQuill.UNKNOWN, x.hands(number, 0, 0));
      promise.due("ask", LentQuill.UNKNOWN, x.ask(number, 0));
    }
  }

  private static void objectsAreApart(Promise promise) {
    promise.says("No TOWN.");
    LentQuill busy = Towns.busy();
    LentQuill x = new LentQuill();
    promise.due("another one's people", 0, x.count(0));
    promise.due("another one's letters", 0, x.count(6));
    promise.due("another one's image", LentQuill.STATE, x.restore());
    Towns.readAnother(x, "p1,p1;1");
    promise.due("the other one's people", 5, busy.count(0));
    promise.due("the other one's letters", 3, busy.count(6));
  }

  private static void fiveHundredAndTwelveCalls(Promise promise) {
    promise.says("An object is used for at most 512 calls after it has been made; what later calls answer is free.");
    LentQuill x = Towns.of("p1,p1;2");
    Towns.lendToAndFro(x, 0, 1, 39);
    int calls = 8 + 39;
    for (; calls + 2 <= 510; calls += 2) {
      promise.due("call " + (calls + 1), 1, x.letter('p'));
      promise.due("call " + (calls + 2), 1, x.blank());
    }
    for (; calls < 511; calls++) {
      promise.due("call " + (calls + 1), 39, x.count(2));
    }
    promise.due("call 512", 3, x.lend(0, 0));
  }
}
