public final class Promise03BlankTest {
  public static void main(String[] args) {
    Promise promise = new Promise(3);
    hold(promise);
    promise.end();
  }

  static void hold(Promise promise) {
    emptyPage(promise);
    fullPage(promise);
    onlyThePage(promise);
  }

  private static void emptyPage(Promise promise) {
    promise.says("THE PAGE is empty: how many letters it had.");
    LentQuill x = new LentQuill();
    promise.due("blank() of a new page", 0, x.blank());
    Towns.write(x, "p1,");
    promise.due("blank() of three letters", 3, x.blank());
    promise.due("blank() again", 0, x.blank());
    promise.due("fault() of an empty page", 0, x.fault());
    promise.due("no letter is told", Whole.mixed(967, 0, 0, 0, 0, 0, 0, 0, 0, 0), x.digest());
    promise.due("the first letter again", 1, x.letter('p'));
    LentQuill y = Towns.of("p1,p1;2");
    promise.due("blank() of a page that was read", 0, y.blank());
  }

  private static void fullPage(Promise promise) {
    promise.says("THE PAGE is empty: how many letters it had.");
    LentQuill x = Towns.written("pppppppppppppppppp");
    promise.due("blank() of a full page", 18, x.blank());
    promise.due("letters", 0, x.count(6));
    Towns.write(x, "p1,p1,p1,p1,p1;5??");
    promise.due("blank() of a page that was filled again", 18, x.blank());
  }

  private static void onlyThePage(Promise promise) {
    promise.says("THE PAGE is empty");
    LentQuill x = Towns.busy();
    x.blank();
    Towns.write(x, "p1,");
    promise.due("all else stays", 1, Whole.of(x).equals(Whole.of(Towns.busy())) ? 1 : 0);
  }
}
