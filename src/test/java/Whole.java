import java.math.BigInteger;
import java.util.ArrayList;
import java.util.List;

/** All that an object tells. */
final class Whole {
  private Whole() {
  }

  /** What an object answers now, and what it answers from its image on (it is restored by this). */
  static List<Long> of(LentQuill x) {
    List<Long> told = now(x);
    told.add((long) x.restore());
    told.addAll(now(x));
    return told;
  }

  static List<Long> now(LentQuill x) {
    List<Long> told = new ArrayList<>();
    told.add(x.digest());
    told.add((long) x.fault());
    for (int pen = 0; pen < x.count(0); pen++) {
      addPen(told, x, pen);
    }
    told.add((long) x.fairs(60, 7, 1));
    return told;
  }

  private static void addPen(List<Long> told, LentQuill x, int pen) {
    int lent = 0;
    for (int holder = x.had(pen, 0); holder >= 0; holder = x.had(pen, lent)) {
      told.add((long) holder);
      lent++;
    }
    told.add((long) lent);
    for (int times = 0; times <= 4; times++) {
      told.add((long) x.hands(pen, times, 0));
      told.add((long) x.ask(pen, times));
    }
  }

  /** From h on, for each of these numbers 31 times h, and it; in a long, wrapping. */
  static long mixed(long h, long... numbers) {
    BigInteger sum = BigInteger.valueOf(h);
    for (long number : numbers) {
      sum = sum.multiply(BigInteger.valueOf(31)).add(BigInteger.valueOf(number));
    }
    return sum.longValue();
  }
}
