import java.math.BigInteger;
import java.util.ArrayList;
import java.util.Collections;
import java.util.LinkedHashSet;
import java.util.List;
import java.util.TreeSet;
import java.util.regex.Matcher;
import java.util.regex.Pattern;

/**
 * Long runs of drawn calls, each answer held against a model that is written from the document's
 * words with lists, sets and big numbers, and shares no way of working with the class.
 */
public final class ModelTest {
  private static final int RUNS = 1500;
  /** An object is used for 512 calls; the digest is the last. */
  private static final int CALLS = 511;
  private static final Check CHECK = new Check();

  public static void main(String[] args) {
    for (int run = 0; run < RUNS; run++) {
      oneRun(run);
    }
    CHECK.end();
  }

  private static void oneRun(int run) {
    Dice dice = new Dice(run);
    Model model = new Model();
    LentQuill x = new LentQuill();
    int calls = 0;
    while (calls < CALLS) {
      if (dice.of(model.people.isEmpty() ? 3 : 150) == 0) {
        String text = dice.text();
        for (int i = 0; i < text.length() && calls < CALLS; i++, calls++) {
          CHECK.due(run + ": letter", model.letter(text.charAt(i)), x.letter(text.charAt(i)));
        }
      }
      if (calls < CALLS) {
        oneCall(run, dice, model, x);
        calls++;
      }
    }
    CHECK.due(run + ": digest at last", model.digest(), x.digest());
  }

  private static void oneCall(int run, Dice dice, Model model, LentQuill x) {
    int a = dice.number();
    int b = dice.number();
    int c = dice.number();
    String with = "(" + a + ", " + b + ", " + c + ")";
    switch (dice.of(30)) {
      case 0: CHECK.due(run + ": fault", model.fault(), x.fault()); break;
      case 1: CHECK.due(run + ": town", model.town(), x.town()); break;
      case 2:
        if (dice.of(4) == 0) {
          CHECK.due(run + ": blank", model.blank(), x.blank());
        }
        break;
      case 3: CHECK.due(run + ": about" + with, model.about(a, b), x.about(a, b)); break;
      case 4: CHECK.due(run + ": as" + with, model.as(a, b), x.as(a, b)); break;
      case 5: CHECK.due(run + ": had" + with, model.had(a, b), x.had(a, b)); break;
      case 6: CHECK.due(run + ": sign" + with, model.sign(a, b), x.sign(a, b)); break;
      case 7: CHECK.due(run + ": deed" + with, model.deed(a, b), x.deed(a, b)); break;
      case 8: CHECK.due(run + ": free" + with, model.free(a, b), x.free(a, b)); break;
      case 9: CHECK.due(run + ": owes" + with, model.owes(a, b), x.owes(a, b)); break;
      case 10:
        int set = dice.of(34) - 1;
        CHECK.due(run + ": way " + set + with, model.way(a, set, b), x.way(a, set, b));
        break;
      case 11: CHECK.due(run + ": find" + with, model.find(a), x.find(a)); break;
      case 12:
        boolean bound = dice.of(2) == 0;
        CHECK.due(run + ": hear " + bound + with, model.hear(a, bound), x.hear(a, bound));
        break;
      case 13: CHECK.due(run + ": forget", model.forget(), x.forget()); break;
      case 14: CHECK.due(run + ": hands" + with, model.hands(a, b, c), x.hands(a, b, c)); break;
      case 15: CHECK.due(run + ": ask" + with, model.ask(a, b), x.ask(a, b)); break;
      case 16:
        int times = dice.of(63) - 1;
        int seed = dice.seed();
        CHECK.due(run + ": fairs " + times + " by " + seed + with,
            model.fairs(times, seed, a), x.fairs(times, seed, a));
        break;
      case 17: CHECK.due(run + ": image", model.image(), x.image()); break;
      case 18:
        if (dice.of(3) == 0) {
          CHECK.due(run + ": restore", model.restore(), x.restore());
        }
        break;
      case 19: CHECK.due(run + ": count" + with, model.count(a), x.count(a)); break;
      case 20: CHECK.due(run + ": digest", model.digest(), x.digest()); break;
      default: CHECK.due(run + ": lend" + with, model.lend(a, b), x.lend(a, b)); break;
    }
  }

  /** Draws by a number alone, so that a run can be had again. */
  private static final class Dice {
    private long state;

    Dice(long start) {
      state = start * 7919 + 17;
    }

    int of(int choices) {
      state = state * 6364136223846793005L + 1442695040888963407L;
      return (int) ((state >>> 33) % choices);
    }

    int number() {
      switch (of(24)) {
        case 0: return of(50) - 3;
        case 1: return of(2) == 0 ? Integer.MIN_VALUE : Integer.MAX_VALUE;
        default: return of(5);
      }
    }

    int seed() {
      switch (of(6)) {
        case 0: return -of(3);
        case 1: return Integer.MAX_VALUE - of(3);
        default: return of(Integer.MAX_VALUE);
      }
    }

    /** Mostly a town, of every size; sometimes with a letter changed, too few or too many. */
    String text() {
      StringBuilder text = new StringBuilder();
      int people = 2 + of(4);
      String kinds = of(2) == 0 ? "pbtya" : "ppppptyyya";
      for (int i = 0; i < people; i++) {
        text.append(i == 0 ? "" : ",").append(kinds.charAt(of(kinds.length()))).append(of(10));
      }
      text.append(';').append(1 + of(5));
      if (of(8) == 0) {
        text.setCharAt(of(text.length()), "pbtya0169,;x ".charAt(of(13)));
      }
      if (of(12) == 0) {
        text.setLength(of(text.length()));
      }
      if (of(12) == 0) {
        text.append("1;,p").append((char) (30 + of(100)));
      }
      return text.toString();
    }
  }

  private record One(char letter, int digit) {
    boolean bishop() {
      return letter == 'b' || letter == 'a';
    }

    int worth() {
      return letter == 'a' ? digit + digit : digit;
    }
  }

  private record Deed(int debt, TreeSet<Integer> bound) {
  }

  private record Heard(int person, boolean bound) {
  }

  /** What an image keeps. */
  private static final class Kept {
    final List<List<Integer>> pens = new ArrayList<>();
    final List<Deed> deeds = new ArrayList<>();
    final List<Heard> heard = new ArrayList<>();

    Kept copy() {
      Kept copy = new Kept();
      for (List<Integer> pen : pens) {
        copy.pens.add(new ArrayList<>(pen));
      }
      for (Deed deed : deeds) {
        copy.deeds.add(new Deed(deed.debt(), new TreeSet<>(deed.bound())));
      }
      copy.heard.addAll(heard);
      return copy;
    }

    int lent() {
      return pens.stream().mapToInt(pen -> pen.size() - 1).sum();
    }
  }

  private static final class Model {
    private static final Pattern TOWN = Pattern.compile("[pbtya][0-9](,[pbtya][0-9]){1,4};[1-5]");

    private String page = "";
    private List<One> people = new ArrayList<>();
    private int limit;
    private Kept kept = new Kept();
    private Kept image;
    private int towns;
    private int ways;

    int letter(int code) {
      if (code < 32 || code > 126) {
        return LentQuill.OUTSIDE;
      }
      if (page.length() == 18) {
        return LentQuill.FULL;
      }
      page += (char) code;
      return page.length();
    }

    int blank() {
      int had = page.length();
      page = "";
      return had;
    }

    private static boolean begins(String text) {
      Matcher matcher = TOWN.matcher(text);
      return matcher.matches() || matcher.hitEnd();
    }

    int fault() {
      int good = page.length();
      while (!begins(page.substring(0, good))) {
        good--;
      }
      return good;
    }

    int town() {
      if (!TOWN.matcher(page).matches()) {
        return LentQuill.STATE;
      }
      people = new ArrayList<>();
      kept = new Kept();
      image = null;
      for (String text : page.split(";")[0].split(",")) {
        kept.pens.add(new ArrayList<>(List.of(people.size())));
        people.add(new One(text.charAt(0), text.charAt(1) - '0'));
      }
      limit = Integer.parseInt(page.split(";")[1]);
      towns++;
      page = "";
      return people.size();
    }

    private boolean stranger(int number) {
      return number < 0 || number >= people.size();
    }

    private static boolean outside(int what, int least, int most) {
      return what < least || what > most;
    }

    private static int bits(Iterable<Integer> numbers) {
      int bits = 0;
      for (int number : numbers) {
        bits += 1 << number;
      }
      return bits;
    }

    private TreeSet<Integer> bound(List<Integer> pen) {
      List<Integer> back = new ArrayList<>(pen);
      Collections.reverse(back);
      List<Integer> once = new ArrayList<>(new LinkedHashSet<>(back));
      List<Integer> last = once.subList(0, Math.min(limit, once.size()));
      TreeSet<Integer> bound = new TreeSet<>();
      boolean thief = false;
      for (int number : last) {
        char letter = people.get(number).letter();
        if (!thief && letter != 'y') {
          bound.add(number);
        }
        thief |= letter == 't';
      }
      return bound;
    }

    private static int holder(List<Integer> pen) {
      return pen.get(pen.size() - 1);
    }

    private boolean lendable(List<Integer> pen, int to) {
      return holder(pen) != to && !people.get(holder(pen)).bishop() && pen.size() <= 40;
    }

    int about(int person, int what) {
      if (stranger(person)) {
        return LentQuill.UNKNOWN;
      }
      List<Integer> pen = kept.pens.get(person);
      switch (what) {
        case 0: return "pbtya".indexOf(people.get(person).letter());
        case 1: return people.get(person).worth();
        case 2: return holder(pen);
        case 3: return bits(bound(pen));
        case 4: return (int) kept.pens.stream().filter(each -> holder(each) == person).count();
        case 5: return (int) kept.deeds.stream().filter(d -> d.bound().contains(person)).count();
        default: return LentQuill.OUTSIDE;
      }
    }

    int as(int person, int kind) {
      if (stranger(person)) {
        return LentQuill.UNKNOWN;
      }
      if (outside(kind, 0, 4)) {
        return LentQuill.OUTSIDE;
      }
      String such = new String[] {"pbtya", "ba", "t", "y", "a"}[kind];
      return such.indexOf(people.get(person).letter()) < 0 ? LentQuill.NONE : person;
    }

    int lend(int pen, int to) {
      if (stranger(pen) || stranger(to)) {
        return LentQuill.UNKNOWN;
      }
      List<Integer> lent = kept.pens.get(pen);
      if (holder(lent) == to || people.get(holder(lent)).bishop()) {
        return LentQuill.STATE;
      }
      if (lent.size() == 41) {
        return LentQuill.FULL;
      }
      lent.add(to);
      return bits(bound(lent));
    }

    int had(int pen, int back) {
      if (stranger(pen)) {
        return LentQuill.UNKNOWN;
      }
      if (outside(back, 0, 40)) {
        return LentQuill.OUTSIDE;
      }
      List<Integer> hands = kept.pens.get(pen);
      return back >= hands.size() ? LentQuill.NONE : hands.get(hands.size() - 1 - back);
    }

    int sign(int pen, int debt) {
      if (stranger(pen)) {
        return LentQuill.UNKNOWN;
      }
      if (outside(debt, 1, 9)) {
        return LentQuill.OUTSIDE;
      }
      TreeSet<Integer> bound = bound(kept.pens.get(pen));
      if (bound.isEmpty()) {
        return LentQuill.STATE;
      }
      if (kept.deeds.size() == 6) {
        return LentQuill.FULL;
      }
      kept.deeds.add(new Deed(debt, bound));
      return kept.deeds.size() - 1;
    }

    int deed(int deed, int what) {
      if (outside(deed, 0, kept.deeds.size() - 1)) {
        return LentQuill.UNKNOWN;
      }
      Deed told = kept.deeds.get(deed);
      switch (what) {
        case 0: return told.debt();
        case 1: return bits(told.bound());
        case 2: return told.bound().stream().mapToInt(i -> people.get(i).worth()).sum();
        default: return LentQuill.OUTSIDE;
      }
    }

    int free(int deed, int person) {
      if (outside(deed, 0, kept.deeds.size() - 1) || stranger(person)) {
        return LentQuill.UNKNOWN;
      }
      TreeSet<Integer> bound = kept.deeds.get(deed).bound();
      return bound.remove(person) ? bound.size() : LentQuill.STATE;
    }

    int owes(int person, int what) {
      if (stranger(person)) {
        return LentQuill.UNKNOWN;
      }
      if (outside(what, 0, 1)) {
        return LentQuill.OUTSIDE;
      }
      BigInteger above = BigInteger.ZERO;
      BigInteger below = BigInteger.ONE;
      for (Deed deed : kept.deeds) {
        if (deed.bound().contains(person)) {
          BigInteger sharers = BigInteger.valueOf(deed.bound().size());
          above = above.multiply(sharers).add(BigInteger.valueOf(deed.debt()).multiply(below));
          below = below.multiply(sharers);
        }
      }
      BigInteger common = above.gcd(below);
      return (what == 0 ? above : below).divide(common).intValueExact();
    }

    /** All pens that can come of this one by just so many lendings, in the order of the lendings. */
    private List<List<Integer>> after(List<Integer> pen, int times) {
      List<List<Integer>> pens = new ArrayList<>(List.of(pen));
      for (int i = 0; i < times; i++) {
        List<List<Integer>> next = new ArrayList<>();
        for (List<Integer> each : pens) {
          for (int to = 0; to < people.size(); to++) {
            if (lendable(each, to)) {
              List<Integer> longer = new ArrayList<>(each);
              longer.add(to);
              next.add(longer);
            }
          }
        }
        pens = next;
      }
      return pens;
    }

    int way(int pen, int set, int what) {
      if (stranger(pen)) {
        return LentQuill.UNKNOWN;
      }
      if (outside(set, 0, (1 << people.size()) - 1) || outside(what, 0, 1)) {
        return LentQuill.OUTSIDE;
      }
      if (ways == 40) {
        return LentQuill.STATE;
      }
      ways++;
      List<Integer> start = kept.pens.get(pen);
      for (int times = 0; times <= 4; times++) {
        for (List<Integer> end : after(start, times)) {
          if (bits(bound(end)) == set) {
            int first = times == 0 ? LentQuill.NONE : end.get(start.size());
            return what == 0 ? times : first;
          }
        }
      }
      return LentQuill.NONE;
    }

    int find(int what) {
      if (outside(what, 0, 1)) {
        return LentQuill.OUTSIDE;
      }
      if (people.isEmpty()) {
        return LentQuill.STATE;
      }
      for (int size = 0; size <= people.size(); size++) {
        for (int found = 0; found < 1 << people.size(); found++) {
          int tried = found;
          if (Integer.bitCount(found) == size && kept.deeds.stream().allMatch(deed ->
              deed.bound().isEmpty() || (bits(deed.bound()) & tried) != 0)) {
            return what == 0 ? size : found;
          }
        }
      }
      throw new IllegalStateException("all people break all deeds");
    }

    int hear(int person, boolean bound) {
      if (stranger(person)) {
        return LentQuill.UNKNOWN;
      }
      if (kept.heard.size() == 6) {
        return LentQuill.FULL;
      }
      kept.heard.add(new Heard(person, bound));
      return kept.heard.size();
    }

    int forget() {
      int was = kept.heard.size();
      kept.heard.clear();
      return was;
    }

    private List<List<Integer>> possible(int pen, int times) {
      List<List<Integer>> ends = after(kept.pens.get(pen), times);
      ends.removeIf(end -> kept.heard.stream().anyMatch(heard ->
          bound(end).contains(heard.person()) != heard.bound()));
      return ends;
    }

    int hands(int pen, int times, int what) {
      if (stranger(pen)) {
        return LentQuill.UNKNOWN;
      }
      if (outside(times, 0, 4) || outside(what, 0, 1)) {
        return LentQuill.OUTSIDE;
      }
      List<List<Integer>> ends = possible(pen, times);
      TreeSet<Integer> holders = new TreeSet<>();
      ends.forEach(end -> holders.add(holder(end)));
      return what == 0 ? ends.size() : bits(holders);
    }

    int ask(int pen, int times) {
      if (stranger(pen)) {
        return LentQuill.UNKNOWN;
      }
      if (outside(times, 0, 4)) {
        return LentQuill.OUTSIDE;
      }
      List<TreeSet<Integer>> bounds = new ArrayList<>();
      possible(pen, times).forEach(end -> bounds.add(bound(end)));
      int best = LentQuill.NONE;
      long least = Long.MAX_VALUE;
      for (int person = 0; person < people.size() && !bounds.isEmpty(); person++) {
        int asked = person;
        long yes = bounds.stream().filter(bound -> bound.contains(asked)).count();
        long worst = Math.max(yes, bounds.size() - yes);
        if (worst < least) {
          least = worst;
          best = person;
        }
      }
      return best;
    }

    private static BigInteger next(BigInteger seed) {
      return seed.multiply(BigInteger.valueOf(1103515245)).add(BigInteger.valueOf(12345))
          .mod(BigInteger.TWO.pow(31));
    }

    private static int drawn(BigInteger seed, int choices) {
      return seed.divide(BigInteger.valueOf(65536)).mod(BigInteger.valueOf(choices)).intValue();
    }

    int fairs(int times, int seed, int what) {
      if (outside(times, 1, 60) || seed < 0 || outside(what, 0, 2)) {
        return LentQuill.OUTSIDE;
      }
      if (people.isEmpty()) {
        return LentQuill.STATE;
      }
      Kept trial = kept.copy();
      BigInteger now = BigInteger.valueOf(seed);
      int nobody = 0;
      int parts = 0;
      for (int i = 0; i < times; i++) {
        now = next(now);
        List<Integer> pen = trial.pens.get(drawn(now, people.size()));
        now = next(now);
        int to = drawn(now, people.size());
        now = next(now);
        int debt = 1 + drawn(now, 9);
        if (lendable(pen, to)) {
          pen.add(to);
        }
        TreeSet<Integer> bound = bound(pen);
        nobody += bound.isEmpty() ? 1 : 0;
        parts += bound.contains(0) ? debt * (60 / bound.size()) : 0;
      }
      return what == 0 ? nobody : what == 1 ? parts : now.intValueExact();
    }

    int image() {
      if (people.isEmpty()) {
        return LentQuill.STATE;
      }
      image = kept.copy();
      return kept.lent();
    }

    int restore() {
      if (image == null) {
        return LentQuill.STATE;
      }
      kept = image.copy();
      return kept.lent();
    }

    int count(int what) {
      switch (what) {
        case 0: return people.size();
        case 1: return limit;
        case 2: return kept.lent();
        case 3: return kept.deeds.size();
        case 4: return (int) kept.deeds.stream().filter(deed -> deed.bound().isEmpty()).count();
        case 5: return kept.heard.size();
        case 6: return page.length();
        case 7: return towns;
        case 8: return ways;
        default: return LentQuill.OUTSIDE;
      }
    }

    long digest() {
      List<Integer> numbers = new ArrayList<>();
      for (int person = 0; person < people.size(); person++) {
        for (int what = 0; what < 6; what++) {
          numbers.add(about(person, what));
        }
        numbers.addAll(List.of(owes(person, 0), owes(person, 1)));
        numbers.addAll(List.of(hands(person, 2, 0), hands(person, 2, 1), ask(person, 2)));
      }
      for (int deed = 0; deed < kept.deeds.size(); deed++) {
        numbers.addAll(List.of(deed(deed, 0), deed(deed, 1), deed(deed, 2)));
      }
      if (!people.isEmpty()) {
        numbers.addAll(List.of(find(0), find(1)));
      }
      page.chars().forEach(numbers::add);
      for (int what = 0; what < 9; what++) {
        numbers.add(count(what));
      }
      long h = 967;
      for (int number : numbers) {
        h = 31 * h + number;
      }
      return h;
    }
  }
}
