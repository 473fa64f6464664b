public final class Promise19AskTest {
  public static void main(String[] args) {
    Promise promise = new Promise(19);
    hold(promise);
    promise.end();
  }

  static void hold(Promise promise) {
    fewestAtWorst(promise);
    theLeastOfLikeOnes(promise);
    theLastOne(promise);
    byWhatIsHeard(promise);
    noWay(promise);
    wornPens(promise);
    refusals(promise);
  }

  private static void fewestAtWorst(Promise promise) {
    promise.says("of whom to ask whether he is BOUND, so that fewest of these ways are left at worst");
    LentQuill x = Towns.of("p1,p1,p1,p1;2");
    promise.due("of three ways 3, 2, 2, 2 are left", 1, x.ask(0, 1));
    promise.due("of nine ways 6, 5, 5, 5 are left", 1, x.ask(0, 2));
    promise.due("nothing is lent by it", 0, x.count(2));
    promise.says("ASK for a PEN and so many times");
    promise.due("of pen 1, 2, 3, 2, 2 are left", 0, x.ask(1, 1));
    promise.due("times 0", 0, x.ask(3, 0));
    promise.due("times 4, of two", 0, Towns.of("p1,p1;1").ask(0, 4));
  }

  private static void theLeastOfLikeOnes(Promise promise) {
    promise.says("of like ones the least");
    LentQuill boys = Towns.of("y1,y1,y1,y1,y1;5");
    promise.due("all alike", 0, boys.ask(4, 4));
    promise.due("of one way", 0, boys.ask(4, 0));
    LentQuill x = Towns.of("b1,p1,p1,p1;1");
    promise.due("of three ways 2, 3, 2, 2 are left", 0, x.ask(1, 1));
    LentQuill y = Towns.of("p1,y1,p1,p1;1");
    promise.due("of three ways 3, 3, 2, 2 are left", 2, y.ask(0, 1));
  }

  private static void theLastOne(Promise promise) {
    promise.says("so that fewest of these ways are left at worst");
    LentQuill x = Towns.of("y1,y1,y1,y1,p1;1");
    promise.due("of four ways 4, 4, 4, 4, 3 are left", 4, x.ask(0, 1));
  }

  private static void byWhatIsHeard(Promise promise) {
    promise.says("so that fewest of these ways are left at worst");
    LentQuill x = Towns.of("p1,p1,p1,p1;2");
    x.hear(1, false);
    promise.due("of two ways 2, 2, 1, 1 are left", 2, x.ask(0, 1));
    x.hear(2, false);
    promise.due("of one way 1 is left", 0, x.ask(0, 1));
    promise.says("none, if there is no way.");
    x.hear(3, false);
    promise.due("of no way", LentQuill.NONE, x.ask(0, 1));
  }

  private static void noWay(Promise promise) {
    promise.says("NONE.");
    LentQuill x = Towns.of("b1,p1,a1;2");
    promise.due("a bishop's is not lent", LentQuill.NONE, x.ask(0, 1));
    promise.due("an abbot's is not lent", LentQuill.NONE, x.ask(2, 4));
    promise.due("one way, not to lend it", 0, x.ask(0, 0));
    x.hear(1, true);
    promise.due("heard otherwise", LentQuill.NONE, x.ask(0, 0));
  }

  private static void wornPens(Promise promise) {
    promise.says("nor one that was LENT 40 times (in all that follows, too).");
    LentQuill x = Towns.worn("p1,p1,p1;1", 0, 1, 36);
    promise.due("lent 36 times, 4 more", 0, x.ask(0, 4));
    Towns.lend(x, 0, 1);
    promise.due("lent 37 times, 3 more", 0, x.ask(0, 3));
    promise.due("lent 37 times, 4 more", LentQuill.NONE, x.ask(0, 4));
    Towns.lend(x, 0, 0, 1, 2);
    promise.due("lent 40 times, no more", 0, x.ask(0, 0));
    promise.due("lent 40 times, once more", LentQuill.NONE, x.ask(0, 1));
  }

  private static void refusals(Promise promise) {
    promise.says("ASK; NONE. UNKNOWN: pen");
    promise.unknown("ask", (x, pen) -> x.ask(pen, 0));
    promise.says("OUTSIDE: times.");
    promise.outside("ask", 0, 4, (x, times) -> x.ask(0, times));
    promise.says("Refusals, of several the first as told by each call");
    promise.refused("ask(5, 5)", LentQuill.UNKNOWN, x -> x.ask(5, 5));
    promise.refused("ask(-1, -1)", LentQuill.UNKNOWN, x -> x.ask(-1, -1));
  }
}
