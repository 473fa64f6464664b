public final class Promise05TownTest {
  public static void main(String[] args) {
    Promise promise = new Promise(5);
    hold(promise);
    promise.end();
  }

  static void hold(Promise promise) {
    twoToFivePeople(promise);
    kindsWorthsAndLimits(promise);
    pageIsEmptyThen(promise);
    pagesThatAreNone(promise);
    allThatWasIsGone(promise);
    smallerTown(promise);
    refusedKeepsAll(promise);
  }

  private static void twoToFivePeople(Promise promise) {
    promise.says("A TOWN is a text: two to five PEOPLE");
    peopleOf(promise);
    promise.says("how many PEOPLE");
    peopleOf(promise);
  }

  private static void peopleOf(Promise promise) {
    promise.due("two", 2, Towns.written("p0,b1;1").town());
    promise.due("three", 3, Towns.written("p0,b1,t2;1").town());
    promise.due("four", 4, Towns.written("p0,b1,t2,y3;1").town());
    promise.due("five", 5, Towns.written("p0,b1,t2,y3,a4;5").town());
  }

  private static void kindsWorthsAndLimits(Promise promise) {
    promise.says("THE PAGE is read as THE TOWN");
    LentQuill x = Towns.of("a9,b8,t0,y6,p5;5");
    int[] kinds = {4, 1, 2, 3, 0};
    int[] worths = {18, 8, 0, 6, 5};
    for (int i = 0; i < 5; i++) {
      promise.due("kind of " + i, kinds[i], x.about(i, 0));
      promise.due("worth of " + i, worths[i], x.about(i, 1));
    }
    for (int limit = 1; limit <= 5; limit++) {
      promise.due("limit", limit, Towns.of("p1,p1;" + limit).count(1));
    }
    for (int worth = 0; worth <= 9; worth++) {
      promise.due("worth", worth, Towns.of("p1,p" + worth + ";1").about(1, 1));
    }
  }

  private static void pageIsEmptyThen(Promise promise) {
    promise.says("THE PAGE is empty then.");
    LentQuill x = Towns.of("p1,p1;2");
    promise.due("letters", 0, x.count(6));
    promise.due("town() again", LentQuill.STATE, x.town());
    promise.due("the first letter", 1, x.letter('p'));
  }

  private static void pagesThatAreNone(Promise promise) {
    promise.says("STATE: it is none.");
    String whole = "p1,t2,y3,b4,a5;5";
    for (int length = 0; length < whole.length(); length++) {
      none(promise, whole.substring(0, length));
    }
    none(promise, "p1;1");
    none(promise, "p1,;1");
    none(promise, "p1,p1,p1,p1,p1,p1;");
    none(promise, "p1,p1;0");
    none(promise, "p1,p1;6");
    none(promise, "p1,p1;11");
    none(promise, "p1,p1;1;");
    none(promise, "p1,p1;;1");
    none(promise, "x1,p1;1");
    none(promise, "p1,p1p1;1");
    none(promise, "p1 ,p1;1");
    none(promise, "p1,p1;1 ");
    none(promise, "p1,p1,p1,p1,p1;511");
  }

  private static void none(Promise promise, String text) {
    LentQuill x = Towns.written(text);
    promise.due("town() of " + text, LentQuill.STATE, x.town());
    promise.due("the page stays " + text, text.length(), x.count(6));
    promise.due("towns read", 0, x.count(7));
  }

  private static void allThatWasIsGone(Promise promise) {
    promise.says("(another one is gone, with all that was)");
    LentQuill x = Towns.of("p1,t1,y1;2");
    Towns.lend(x, 0, 1);
    Towns.sign(x, 0, 3);
    x.hear(0, true);
    x.hear(1, false);
    x.image();
    Towns.readAnother(x, "p1,t1,y1;2");
    promise.due("who has pen 0", 0, x.had(0, 0));
    promise.due("who had it before", LentQuill.NONE, x.had(0, 1));
    promise.due("lent", 0, x.count(2));
    promise.due("deeds", 0, x.count(3));
    promise.due("deed(0, 0)", LentQuill.UNKNOWN, x.deed(0, 0));
    promise.due("the first deed", 0, x.sign(0, 2));
    promise.due("heard", 0, x.count(5));
    promise.due("heard that 0 is bound", 1, x.hands(2, 0, 0));
    promise.due("heard that 1 is not bound", 1, x.hands(1, 0, 0));
    promise.due("the image", LentQuill.STATE, x.restore());
    promise.due("towns read", 2, x.count(7));
  }

  private static void smallerTown(Promise promise) {
    promise.says("(another one is gone, with all that was)");
    LentQuill x = Towns.of("a9,a9,a9,a9,a9;5");
    Towns.readAnother(x, "p1,t2;1");
    promise.due("people", 2, x.count(0));
    promise.due("limit", 1, x.count(1));
    promise.due("kind", 0, x.about(0, 0));
    promise.due("worth", 2, x.about(1, 1));
    promise.due("the third one", LentQuill.UNKNOWN, x.about(2, 0));
    promise.due("his pen", LentQuill.UNKNOWN, x.lend(2, 0));
    promise.due("to him", LentQuill.UNKNOWN, x.lend(0, 2));
    promise.due("his bit", LentQuill.OUTSIDE, x.way(0, 4, 0));
    promise.due("ways to lend", 1, x.hands(0, 4, 0));
  }

  private static void refusedKeepsAll(Promise promise) {
    promise.says("they change nothing");
    promise.refused("town() of a beginning", LentQuill.STATE, LentQuill::town);
    promise.refused("town() of an empty page", LentQuill.STATE, () -> {
      LentQuill x = Towns.busy();
      x.blank();
      return x;
    }, LentQuill::town);
  }
}
