import java.math.BigInteger;

public final class Promise24DigestTest {
  public static void main(String[] args) {
    Promise promise = new Promise(24);
    hold(promise);
    promise.end();
  }

  static void hold(Promise promise) {
    nothing(promise);
    lettersOfThePage(promise);
    townWithoutDeeds(promise);
    numbersInOrder(promise);
    twoLendingsAhead(promise);
    wrapping(promise);
    digestChangesNothing(promise);
  }

  private static void nothing(Promise promise) {
    promise.says("h is 967, then for each of these numbers, in order, 31 times h, and it");
    promise.due("nothing", Whole.mixed(967, 0, 0, 0, 0, 0, 0, 0, 0, 0), new LentQuill().digest());
    LentQuill page = Towns.written("pb");
    promise.due("two", Whole.mixed(967, 'p', 'b', 0, 0, 0, 0, 0, 0, 2, 0, 0), page.digest());
    promise.says("with a TOWN what find() tells for 0 and 1");
    LentQuill x = Towns.written("p1,p1;1");
    long letters = Whole.mixed(967, 'p', '1', ',', 'p', '1', ';', '1');
    promise.due("no town yet", Whole.mixed(letters, 0, 0, 0, 0, 0, 0, 7, 0, 0), x.digest());
    LentQuill found = Towns.of("p1,p1;1");
    Towns.sign(found, 1, 1);
    long h = Whole.mixed(967, 0, 1, 0, 1, 1, 0, 0, 1, 1, 1, 0);
    h = Whole.mixed(h, 0, 1, 1, 2, 1, 1, 1, 1, 1, 2, 0);
    h = Whole.mixed(h, 1, 2, 1);
    h = Whole.mixed(h, 1, 2);
    promise.due("one to find, 1", Whole.mixed(h, 2, 1, 0, 1, 0, 0, 0, 1, 0), found.digest());
  }

  private static void lettersOfThePage(Promise promise) {
    promise.says("letters of THE PAGE");
    LentQuill x = Towns.written(" ~");
    promise.due("two", Whole.mixed(967, 32, 126, 0, 0, 0, 0, 0, 0, 2, 0, 0), x.digest());
    Towns.write(x, "pppppppppppppppp");
    long h = Whole.mixed(967, 32, 126);
    for (int i = 0; i < 16; i++) {
      h = Whole.mixed(h, 'p');
    }
    promise.due("eighteen", Whole.mixed(h, 0, 0, 0, 0, 0, 0, 18, 0, 0), x.digest());
    x.blank();
    promise.due("none", Whole.mixed(967, 0, 0, 0, 0, 0, 0, 0, 0, 0), x.digest());
  }

  private static void townWithoutDeeds(Promise promise) {
    promise.says("what count() tells for 0 to 8.");
    long h = Whole.mixed(967, 0, 1, 0, 1, 1, 0, 0, 1, 1, 1, 0);
    h = Whole.mixed(h, 0, 1, 1, 2, 1, 0, 0, 1, 1, 2, 0);
    h = Whole.mixed(h, 0, 0);
    h = Whole.mixed(h, 2, 1, 0, 0, 0, 0, 0, 1, 0);
    promise.due("two people", h, Towns.of("p1,p1;1").digest());
  }

  private static void numbersInOrder(Promise promise) {
    LentQuill x = Towns.of("p3,a2;2");
    Towns.lend(x, 0, 1);
    Towns.sign(x, 0, 5);
    Towns.sign(x, 1, 4);
    Towns.free(x, 1, 1);
    x.hear(1, true);
    x.way(0, 0, 0);
    Towns.write(x, "a");
    long h = Whole.mixed(967, 0, 3, 1, 3, 0, 1);
    h = Whole.mixed(h, 5, 2);
    h = Whole.mixed(h, 0, 0, LentQuill.NONE);
    h = Whole.mixed(h, 4, 4, 1, 2, 2, 1);
    h = Whole.mixed(h, 5, 2);
    h = Whole.mixed(h, 0, 0, LentQuill.NONE);
    h = Whole.mixed(h, 5, 3, 7);
    h = Whole.mixed(h, 4, 0, 0);
    h = Whole.mixed(h, 1, 1);
    h = Whole.mixed(h, 'a');
    h = Whole.mixed(h, 2, 2, 1, 2, 1, 1, 1, 1, 1);
    promise.says("of each one what about() tells for 0 to 5, what owes() tells for 0 and 1");
    promise.due("two who owe", h, x.digest());
    promise.says("of each DEED what deed() tells for 0 to 2");
    promise.due("a deed, and a void one", h, x.digest());
  }

  private static void twoLendingsAhead(Promise promise) {
    promise.says("HANDS of his PEN for 2 times for 0 and 1, ASK for 2 times");
    LentQuill x = Towns.of("p1,p1,p1,p1;2");
    long h = 967;
    int[] asked = {1, 0, 0, 0};
    for (int i = 0; i < 4; i++) {
      h = Whole.mixed(h, 0, 1, i, 1 << i, 1, 0, 0, 1, 9, 15, asked[i]);
    }
    h = Whole.mixed(h, 0, 0);
    h = Whole.mixed(h, 4, 2, 0, 0, 0, 0, 0, 1, 0);
    promise.due("nine ways for each pen", h, x.digest());
    h = 967;
    for (int i = 0; i < 3; i++) {
      h = Whole.mixed(h, 0, 1, i, 1 << i, 1, 0, 0, 1, 4, 7, i);
    }
    h = Whole.mixed(h, 0, 0);
    h = Whole.mixed(h, 3, 1, 0, 0, 0, 0, 0, 1, 0);
    promise.due("its owner is asked, not as for 1 or 3", h, Towns.of("p1,p1,p1;1").digest());
  }

  private static void wrapping(Promise promise) {
    promise.says("(as longs, wrapping)");
    LentQuill x = Towns.written("~~~~~~~~~~~~~~~~~~");
    BigInteger h = BigInteger.valueOf(967);
    for (int i = 0; i < 18; i++) {
      h = h.multiply(BigInteger.valueOf(31)).add(BigInteger.valueOf(126));
    }
    for (int i = 0; i < 9; i++) {
      h = h.multiply(BigInteger.valueOf(31)).add(BigInteger.valueOf(i == 6 ? 18 : 0));
    }
    promise.due("more bits than a long has", 1, h.bitLength() > 64 ? 1 : 0);
    promise.due("the lowest 64 of them", h.longValue(), x.digest());
  }

  private static void digestChangesNothing(Promise promise) {
    promise.says("in order");
    LentQuill x = Towns.busy();
    promise.due("the same again", x.digest(), x.digest());
    promise.due("heard", 2, x.count(5));
    promise.due("lent", 5, x.count(2));
    promise.due("letters", 3, x.count(6));
    promise.due("all stays", 1, Whole.of(x).equals(Whole.of(Towns.busy())) ? 1 : 0);
  }
}
