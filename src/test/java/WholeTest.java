/** Promises 21 to 24: image, restore, count, digest. */
public final class WholeTest {
  private static final Check CHECK = new Check();

  public static void main(String[] args) {
    images();
    theLatestImage();
    imagesOfAnotherTown();
    counts();
    digestOfNothing();
    digestOfATown();
    digestLooksTwoLendingsAhead();
    CHECK.end();
  }

  private static void images() {
    LentQuill x = Check.townOf("p1,p1,p1;2");
    CHECK.due("22: none was kept", LentQuill.STATE, x.restore());
    Check.lendAll(x, 0, 1);
    x.sign(0, 4);
    x.hear(0, true);
    CHECK.due("21: lent once", 1, x.image());
    Check.lendAll(x, 0, 2);
    Check.lendAll(x, 1, 2);
    x.sign(1, 5);
    x.free(0, 0);
    x.hear(1, false);
    CHECK.due("22: lent once", 1, x.restore());
    CHECK.due("22: who has pen 0", 1, x.had(0, 0));
    CHECK.due("22: who has pen 1", 1, x.had(1, 0));
    CHECK.due("22: pen 1 was not lent", LentQuill.NONE, x.had(1, 1));
    CHECK.due("22: lent", 1, x.count(2));
    CHECK.due("22: deeds", 1, x.count(3));
    CHECK.due("22: bound by the deed", 3, x.deed(0, 1));
    CHECK.due("22: heard", 1, x.count(5));
    CHECK.due("22: what is heard holds", 0, x.hands(2, 0, 0));
    CHECK.due("22: what was heard later does not", 1, x.hands(0, 1, 0));
    x.forget();
    x.free(0, 1);
    CHECK.due("22: again from the same image", 1, x.restore());
    CHECK.due("22: bound again", 3, x.deed(0, 1));
    CHECK.due("22: heard again", 1, x.count(5));
    CHECK.due("22: and it holds again", 0, x.hands(2, 0, 0));
  }

  private static void theLatestImage() {
    LentQuill x = Check.townOf("p1,p1,p1;2");
    CHECK.due("21: nothing lent", 0, x.image());
    Check.lendAll(x, 0, 1, 2);
    x.way(0, 0, 0);
    CHECK.due("21: the latest", 2, x.image());
    Check.lendAll(x, 0, 1);
    Check.write(x, "p1");
    x.way(0, 0, 0);
    CHECK.due("22: from the latest", 2, x.restore());
    CHECK.due("22: the page is not of the image", 2, x.count(6));
    CHECK.due("22: nor is what way() did", 2, x.count(8));
  }

  private static void imagesOfAnotherTown() {
    LentQuill x = new LentQuill();
    CHECK.due("21: no town", LentQuill.STATE, x.image());
    CHECK.due("22: none kept", LentQuill.STATE, x.restore());
    Check.write(x, "p1,p1;2");
    x.town();
    x.image();
    Check.write(x, "p1,p1;2");
    CHECK.due("22: not yet another town", 0, x.restore());
    x.town();
    CHECK.due("22: another town since", LentQuill.STATE, x.restore());
    CHECK.due("21: kept anew", 0, x.image());
    CHECK.due("22: from that", 0, x.restore());
  }

  private static void counts() {
    LentQuill x = Check.townOf("p1,p1,p1;4");
    Check.lendAll(x, 0, 1, 2);
    Check.lendAll(x, 1, 2);
    x.sign(2, 1);
    x.sign(0, 1);
    x.sign(0, 2);
    x.free(0, 2);
    x.hear(0, true);
    x.hear(1, true);
    x.way(0, 0, 0);
    x.way(0, 7, 0);
    Check.write(x, "p1,?");
    int[] all = {3, 4, 3, 3, 1, 2, 4, 1, 2};
    for (int what = 0; what < all.length; what++) {
      CHECK.due("23: count(" + what + ")", all[what], x.count(what));
    }
    CHECK.due("23: count(9)", LentQuill.OUTSIDE, x.count(9));
    CHECK.due("23: count(-1)", LentQuill.OUTSIDE, x.count(-1));
  }

  private static long mixed(long h, long... numbers) {
    long mixed = h;
    for (long number : numbers) {
      mixed = 31L * mixed + number;
    }
    return mixed;
  }

  private static void digestOfNothing() {
    LentQuill x = new LentQuill();
    CHECK.due("24: nothing", mixed(967, 0, 0, 0, 0, 0, 0, 0, 0, 0), x.digest());
    Check.write(x, "p~");
    CHECK.due("24: two letters", mixed(967, 'p', '~', 0, 0, 0, 0, 0, 0, 2, 0, 0), x.digest());
  }

  private static void digestOfATown() {
    LentQuill x = Check.townOf("p3,a2;2");
    Check.lendAll(x, 0, 1);
    x.sign(0, 5);
    x.sign(1, 4);
    x.free(1, 1);
    Check.write(x, "a");
    long h = 967;
    h = mixed(h, 0, 3, 1, 3, 0, 1);
    h = mixed(h, 5, 2);
    h = mixed(h, 0, 0, LentQuill.NONE);
    h = mixed(h, 4, 4, 1, 2, 2, 1);
    h = mixed(h, 5, 2);
    h = mixed(h, 0, 0, LentQuill.NONE);
    h = mixed(h, 5, 3, 7);
    h = mixed(h, 4, 0, 0);
    h = mixed(h, 1, 1);
    h = mixed(h, 'a');
    h = mixed(h, 2, 2, 1, 2, 1, 0, 1, 1, 0);
    CHECK.due("24: a town", h, x.digest());
    CHECK.due("24: nothing changes by it", h, x.digest());
    LentQuill two = Check.townOf("p1,p1;1");
    h = mixed(967, 0, 1, 0, 1, 1, 0, 0, 1, 1, 1, 0);
    h = mixed(h, 0, 1, 1, 2, 1, 0, 0, 1, 1, 2, 0);
    h = mixed(h, 0, 0);
    h = mixed(h, 2, 1, 0, 0, 0, 0, 0, 1, 0);
    CHECK.due("24: two people", h, two.digest());
  }

  /* Of so many times 2 is told: for each pen 9 ways, not 3 or 27. */
  private static void digestLooksTwoLendingsAhead() {
    LentQuill x = Check.townOf("p1,p1,p1,p1;2");
    long h = 967;
    int[] asked = {1, 0, 0, 0};
    for (int i = 0; i < 4; i++) {
      h = mixed(h, 0, 1, i, 1 << i, 1, 0, 0, 1, 9, 15, asked[i]);
    }
    h = mixed(h, 0, 0);
    h = mixed(h, 4, 2, 0, 0, 0, 0, 0, 1, 0);
    CHECK.due("24: four people", h, x.digest());
  }
}
