import java.math.BigInteger;

/*
 * The seeds from 0: 12345, 1406932606, 654583775, 1449466924, 229283573, 1109335178. So of two people
 * the first time pen 0 would go to 0, the second time pen 1 to 0; of five the first time pen 0 goes
 * to 3; each time for a debt of 8.
 */
public final class Promise20FairsTest {
  private static final String FIVE = "p1,p1,p1,p1,p1;5";
  private static final int ONCE = 654583775;
  private static final int TWICE = 1109335178;

  public static void main(String[] args) {
    Promise promise = new Promise(20);
    hold(promise);
    promise.end();
  }

  static void hold(Promise promise) {
    asTheyWouldBe(promise);
    timesFrom1To60(promise);
    seedsWrap(promise);
    drawsOfHowManyThereAre(promise);
    lentIfItCanBe(promise);
    lentFortyTimes(promise);
    notAmongTheSix(promise);
    nobodyBound(promise);
    sixtieths(promise);
    refusals(promise);
  }

  private static void fairs(Promise promise, LentQuill x, int times, int nobody, int parts) {
    for (int again = 0; again < 2; again++) {
      promise.due("fairs(" + times + ", 0, 0)", nobody, x.fairs(times, 0, 0));
      promise.due("fairs(" + times + ", 0, 1)", parts, x.fairs(times, 0, 1));
      promise.due("fairs(" + times + ", 0, 2)", times == 1 ? ONCE : TWICE, x.fairs(times, 0, 2));
    }
  }

  private static BigInteger next(BigInteger seed) {
    return seed.multiply(BigInteger.valueOf(1103515245)).add(BigInteger.valueOf(12345))
        .mod(BigInteger.TWO.pow(31));
  }

  private static int drawn(BigInteger seed, int choices) {
    return seed.divide(BigInteger.valueOf(65536)).mod(BigInteger.valueOf(choices)).intValueExact();
  }

  private static void asTheyWouldBe(Promise promise) {
    promise.says("FAIRS by a SEED, as they would be");
    LentQuill x = Towns.busy();
    for (int what = 0; what <= 2; what++) {
      x.fairs(60, 5, what);
    }
    promise.due("nothing changes", 1, Whole.of(x).equals(Whole.of(Towns.busy())) ? 1 : 0);
    promise.due("the same seed again", x.fairs(60, 5, 1), x.fairs(60, 5, 1));
    promise.says("FAIRS: what = 0 how often nobody would be BOUND, 1 sixtieths, 2 the SEED then.");
    fairs(promise, Towns.of("p1,p1;2"), 1, 0, 480);
    fairs(promise, Towns.of("p1,p1;2"), 2, 0, 720);
    LentQuill lent = Towns.of("p1,p1;2");
    Towns.lend(lent, 0, 1);
    fairs(promise, lent, 1, 0, 240);
  }

  private static void timesFrom1To60(Promise promise) {
    promise.says("OUTSIDE: times (1 to 60)");
    promise.outside("fairs, times", 1, 60, (x, times) -> x.fairs(times, 0, 0));
    BigInteger seed = BigInteger.ZERO;
    for (int times = 1; times <= 60; times++) {
      seed = next(next(next(seed)));
      promise.due("seed", seed.intValueExact(), Towns.of("p1,p1;2").fairs(times, 0, 2));
    }
    promise.due("60 times a boy's", 60, Towns.of("y1,y1;2").fairs(60, 0, 0));
  }

  private static void seedsWrap(Promise promise) {
    promise.says("seed (0 at least), what");
    for (int seed : new int[] {-1, Integer.MIN_VALUE}) {
      promise.refused("fairs(1, " + seed + ", 2)", LentQuill.OUTSIDE, x -> x.fairs(1, seed, 2));
    }
    promise.outside("fairs, what", 0, 2, (x, what) -> x.fairs(1, 0, what));
    promise.says("DRAWS: the next SEED each time: 1103515245 times it and 12345, its rest by 2 to the 31");
    LentQuill x = Towns.of("p1,p1;2");
    for (int seed : new int[] {0, 1, 2, 12345, 1 << 30, Integer.MAX_VALUE - 1, Integer.MAX_VALUE}) {
      BigInteger then = next(next(next(BigInteger.valueOf(seed))));
      promise.due("seed behind " + seed, then.intValueExact(), x.fairs(1, seed, 2));
    }
    promise.due("seed behind the greatest", 646343466, x.fairs(1, Integer.MAX_VALUE, 2));
  }

  /** What 0 owes where who has a pen is alone bound by it, each pen with so many lendings left. */
  private static int owedAlone(int people, int lendingsLeft, BigInteger firstSeed) {
    int[] holder = {0, 1, 2, 3, 4};
    int[] left = {lendingsLeft, lendingsLeft, lendingsLeft, lendingsLeft, lendingsLeft};
    BigInteger seed = firstSeed;
    int parts = 0;
    for (int i = 0; i < 60; i++) {
      BigInteger second = next(next(seed));
      int pen = drawn(next(seed), people);
      int to = drawn(second, people);
      seed = next(second);
      if (to != holder[pen] && left[pen] > 0) {
        holder[pen] = to;
        left[pen]--;
      }
      parts += holder[pen] == 0 ? 60 * (1 + drawn(seed, 9)) : 0;
    }
    return parts;
  }

  /** So many people, who has a pen being alone bound by it; each has his pen back. */
  private static LentQuill wornAlone(int people, int lent) {
    LentQuill x = Towns.of("p1,".repeat(people - 1) + "p1;1");
    for (int pen = 0; pen < people; pen++) {
      Towns.lendToAndFro(x, pen, (pen + 1) % people, lent);
    }
    return x;
  }

  private static void drawsOfHowManyThereAre(Promise promise) {
    promise.says("so many times a PEN by a DRAW of how many there are is LENT to one by a DRAW of how many there are");
    for (int seed : new int[] {0, 7, Integer.MAX_VALUE}) {
      for (int people = 2; people <= 5; people++) {
        promise.due(people + " people, seed " + seed,
            owedAlone(people, 40, BigInteger.valueOf(seed)), wornAlone(people, 0).fairs(60, seed, 1));
        promise.due(people + " people, worn pens, seed " + seed,
            owedAlone(people, 4, BigInteger.valueOf(seed)), wornAlone(people, 36).fairs(60, seed, 1));
      }
    }
    promise.says("then that by 65536 (rounded down), its rest.");
    LentQuill x = Towns.of("p1,p1,p1,p1,p1;1");
    Towns.lend(x, 0, 1);
    promise.due("pen 0, which 1 has, goes to 3", 0, x.fairs(1, 0, 1));
    LentQuill y = Towns.of(FIVE);
    promise.due("pen 0 goes to 3, for a debt of 8", 240, y.fairs(1, 0, 1));
  }

  private static void lentIfItCanBe(Promise promise) {
    promise.says("(if it can be)");
    fairs(promise, Towns.of("p1,p1;1"), 1, 0, 480);
    fairs(promise, Towns.of("p1,p1;1"), 2, 0, 960);
    fairs(promise, Towns.of("p1,b1;1"), 2, 0, 480);
    fairs(promise, Towns.of("p1,a1;1"), 2, 0, 480);
  }

  private static void lentFortyTimes(Promise promise) {
    promise.says("nor one that was LENT 40 times (in all that follows, too).");
    fairs(promise, Towns.worn("p1,p1;1", 1, 0, 38), 2, 0, 960);
    fairs(promise, Towns.worn("p1,p1;1", 1, 0, 40), 2, 0, 480);
    for (int lent = 30; lent <= 40; lent += 2) {
      promise.due("lent " + lent + " times, the others in the fairs themselves",
          owedAlone(3, 40 - lent, BigInteger.TEN), wornAlone(3, lent).fairs(60, 10, 1));
    }
  }

  private static void notAmongTheSix(Promise promise) {
    promise.says("(it does not count among the six)");
    LentQuill x = Towns.of("p1,p1;2");
    Towns.sign(x, 0, 1, 1, 1, 1, 1, 1);
    fairs(promise, x, 2, 0, 720);
    promise.due("deeds", 6, x.count(3));
    LentQuill none = Towns.of("p1,p1;2");
    none.fairs(60, 0, 0);
    promise.due("deeds", 0, none.count(3));
    promise.due("more than six at once", owedAlone(2, 40, BigInteger.ZERO),
        Towns.of("p1,p1;1").fairs(60, 0, 1));
  }

  private static void nobodyBound(Promise promise) {
    promise.says("how often nobody would be BOUND (it is not SIGNED then)");
    fairs(promise, Towns.of("y1,p1;1"), 2, 2, 0);
    fairs(promise, Towns.of("y1,p1;2"), 1, 1, 0);
    fairs(promise, Towns.of("y1,p1;2"), 2, 1, 0);
    fairs(promise, Towns.of("p1,y1;2"), 2, 0, 960);
    promise.says("then a DEED for a DEBT of 1 more than a DRAW of 9 is SIGNED by it");
    promise.due("all draws are made, though nobody is bound", ONCE,
        Towns.of("y1,y1;1").fairs(1, 0, 2));
  }

  private static void sixtieths(Promise promise) {
    promise.says("all that PERSON 0 owes of these, in sixtieths.");
    int[] sharers = {0, 0, 160, 120, 96};
    int[][] lendings = {{}, {1}, {1, 2}, {1, 2, 4}};
    for (int limit = 1; limit <= 5; limit++) {
      LentQuill x = Towns.of("p1,p1,p1,p1,p1;" + limit);
      Towns.lend(x, 0, lendings[Math.max(0, limit - 2)]);
      promise.due("limit " + limit, limit == 2 ? 240 : sharers[limit - 1], x.fairs(1, 0, 1));
    }
    LentQuill signed = Towns.of("p1,p1;2");
    Towns.sign(signed, 0, 9);
    promise.due("not of deeds that are signed", 480, signed.fairs(1, 0, 1));
    promise.due("not what another one owes", 0, Towns.of("t1,p1,p1,t1,p1;5").fairs(1, 0, 1));
  }

  private static void refusals(Promise promise) {
    promise.says("STATE: no TOWN.");
    promise.refused("fairs(60, 0, 0)", LentQuill.STATE, LentQuill::new, x -> x.fairs(60, 0, 0));
    promise.refused("fairs(1, 0, 2)", LentQuill.STATE, () -> Towns.written("p1,p1;2"),
        x -> x.fairs(1, 0, 2));
    promise.says("Refusals, of several the first as told by each call");
    promise.refused("no times, no town", LentQuill.OUTSIDE, LentQuill::new, x -> x.fairs(61, 0, 0));
    promise.refused("no seed, no town", LentQuill.OUTSIDE, LentQuill::new, x -> x.fairs(1, -1, 0));
    promise.refused("no what, no town", LentQuill.OUTSIDE, LentQuill::new, x -> x.fairs(1, 0, 3));
  }
}
