/**
 * A town in which a pen signs for everyone through whose hands it went: pens are lent, deeds are
 * signed, shares are owed; and what would be, or can have been, is searched for.
 */
public final class LentQuill {
  public static final int NONE = -1, UNKNOWN = -101, OUTSIDE = -102, STATE = -103, FULL = -104;

  private static final int MOST_PEOPLE = 5;
  private static final int LEAST_PEOPLE = 2;
  private static final int MOST_LIMIT = 5;
  private static final int MOST_LETTERS = 18;
  private static final int MOST_LENT = 40;
  private static final int MOST_DEEDS = 6;
  private static final int MOST_DEBT = 9;
  private static final int MOST_HEARD = 6;
  private static final int MOST_AHEAD = 4;
  private static final int MOST_WAYS = 40;
  private static final int MOST_FAIRS = 60;
  private static final int COUNTS = 9;

  /** Every share is a whole number of these: one to five people can be bound by a deed. */
  private static final int PARTS = 60;

  private static final String KIND_LETTERS = "pbtya";
  private static final int PERSON = 0;
  private static final int BISHOP = 1;
  private static final int THIEF = 2;
  private static final int BOY = 3;
  private static final int ABBOT = 4;

  private final Page page = new Page();
  private final Town town = new Town();
  private final Books books = new Books();
  private final Books image = new Books();
  private final Search search = new Search();
  private final Fair fair = new Fair();
  private boolean imageKept;
  private int townsRead;
  private int waysDone;

  public LentQuill() {
  }

  // ---- the town

  public int letter(int code) {
    if (code < 32 || code > 126) {
      return OUTSIDE;
    }
    return page.add(code) ? page.size() : FULL;
  }

  public int blank() {
    int had = page.size();
    page.clear();
    return had;
  }

  public int fault() {
    return page.firstFault();
  }

  public int town() {
    if (!page.isTown()) {
      return STATE;
    }
    town.readFrom(page);
    page.clear();
    books.clear();
    imageKept = false;
    townsRead++;
    return town.size();
  }

  // ---- people, pens

  public int about(int person, int what) {
    Person one = town.one(person);
    Pen own = penOf(person);
    if (one == null || own == null) {
      return UNKNOWN;
    }
    switch (what) {
      case 0: return one.kind();
      case 1: return one.worth();
      case 2: return own.holder();
      case 3: return town.boundBy(own);
      case 4: return books.pensWith(person);
      case 5: return books.deedsBinding(person);
      default: return OUTSIDE;
    }
  }

  public int as(int person, int kind) {
    Person one = town.one(person);
    if (one == null) {
      return UNKNOWN;
    }
    switch (kind) {
      case PERSON: return person;
      case BISHOP: return one instanceof Bishop ? person : NONE;
      case THIEF: return one instanceof Thief ? person : NONE;
      case BOY: return one instanceof Boy ? person : NONE;
      case ABBOT: return one instanceof Abbot ? person : NONE;
      default: return OUTSIDE;
    }
  }

  public int lend(int pen, int to) {
    Pen lent = penOf(pen);
    if (lent == null || town.one(to) == null) {
      return UNKNOWN;
    }
    if (!town.wouldPass(lent, to)) {
      return STATE;
    }
    if (lent.isLentOut()) {
      return FULL;
    }
    lent.passTo(to);
    return town.boundBy(lent);
  }

  public int had(int pen, int back) {
    Pen asked = penOf(pen);
    if (asked == null) {
      return UNKNOWN;
    }
    if (back < 0 || back > MOST_LENT) {
      return OUTSIDE;
    }
    return asked.holderBefore(back);
  }

  // ---- deeds

  public int sign(int pen, int debt) {
    Pen signing = penOf(pen);
    if (signing == null) {
      return UNKNOWN;
    }
    if (debt < 1 || debt > MOST_DEBT) {
      return OUTSIDE;
    }
    int bound = town.boundBy(signing);
    if (bound == 0) {
      return STATE;
    }
    int number = books.deeds();
    return books.addDeed(debt, bound) ? number : FULL;
  }

  public int deed(int deed, int what) {
    if (!books.isDeed(deed)) {
      return UNKNOWN;
    }
    switch (what) {
      case 0: return books.debtOf(deed);
      case 1: return books.boundByDeed(deed);
      case 2: return town.worthOf(books.boundByDeed(deed));
      default: return OUTSIDE;
    }
  }

  public int free(int deed, int person) {
    if (!books.isDeed(deed) || town.one(person) == null) {
      return UNKNOWN;
    }
    int bound = books.boundByDeed(deed);
    if (!holds(bound, person)) {
      return STATE;
    }
    books.unbind(deed, person);
    return Integer.bitCount(books.boundByDeed(deed));
  }

  public int owes(int person, int what) {
    if (town.one(person) == null) {
      return UNKNOWN;
    }
    if (what < 0 || what > 1) {
      return OUTSIDE;
    }
    int owed = books.partsOwedBy(person);
    return lowest(what == 0 ? owed : PARTS, owed);
  }

  // ---- what would be

  public int way(int pen, int set, int what) {
    Pen start = penOf(pen);
    if (start == null) {
      return UNKNOWN;
    }
    if (set < 0 || set > town.everyone() || what < 0 || what > 1) {
      return OUTSIDE;
    }
    if (waysDone >= MOST_WAYS) {
      return STATE;
    }
    waysDone++;
    search.seek(town, start, set);
    return what == 0 ? search.fewest() : search.first();
  }

  public int find(int what) {
    if (what < 0 || what > 1) {
      return OUTSIDE;
    }
    if (town.isEmpty()) {
      return STATE;
    }
    int found = books.fewestBreakers(town.everyone());
    return what == 0 ? Integer.bitCount(found) : found;
  }

  // ---- what is heard

  public int hear(int person, boolean bound) {
    if (town.one(person) == null) {
      return UNKNOWN;
    }
    return books.addHeard(person, bound) ? books.heard() : FULL;
  }

  public int forget() {
    int was = books.heard();
    books.clearHeard();
    return was;
  }

  public int hands(int pen, int times, int what) {
    Pen start = penOf(pen);
    if (start == null) {
      return UNKNOWN;
    }
    if (times < 0 || times > MOST_AHEAD || what < 0 || what > 1) {
      return OUTSIDE;
    }
    search.tally(town, start, times, books);
    return what == 0 ? search.ways() : search.holders();
  }

  public int ask(int pen, int times) {
    Pen start = penOf(pen);
    if (start == null) {
      return UNKNOWN;
    }
    if (times < 0 || times > MOST_AHEAD) {
      return OUTSIDE;
    }
    search.tally(town, start, times, books);
    return search.bestAsked(town.size());
  }

  public int fairs(int times, int seed, int what) {
    if (times < 1 || times > MOST_FAIRS || seed < 0 || what < 0 || what > 2) {
      return OUTSIDE;
    }
    if (town.isEmpty()) {
      return STATE;
    }
    fair.open(books, seed);
    for (int i = 0; i < times; i++) {
      fair.holdOne(town);
    }
    switch (what) {
      case 0: return fair.unsigned();
      case 1: return fair.partsOwed();
      default: return fair.seed();
    }
  }

  // ---- what is told of all

  public int image() {
    if (town.isEmpty()) {
      return STATE;
    }
    image.copyFrom(books);
    imageKept = true;
    return books.timesLent();
  }

  public int restore() {
    if (!imageKept) {
      return STATE;
    }
    books.copyFrom(image);
    return books.timesLent();
  }

  public int count(int what) {
    switch (what) {
      case 0: return town.size();
      case 1: return town.limit();
      case 2: return books.timesLent();
      case 3: return books.deeds();
      case 4: return books.voidDeeds();
      case 5: return books.heard();
      case 6: return page.size();
      case 7: return townsRead;
      case 8: return waysDone;
      default: return OUTSIDE;
    }
  }

  public long digest() {
    long h = 967L;
    for (int person = 0; person < town.size(); person++) {
      h = mixPerson(h, person);
    }
    for (int number = 0; number < books.deeds(); number++) {
      for (int what = 0; what <= 2; what++) {
        h = mix(h, deed(number, what));
      }
    }
    if (!town.isEmpty()) {
      h = mix(mix(h, find(0)), find(1));
    }
    for (int place = 0; place < page.size(); place++) {
      h = mix(h, page.codeAt(place));
    }
    for (int what = 0; what < COUNTS; what++) {
      h = mix(h, count(what));
    }
    return h;
  }

  private long mixPerson(long before, int person) {
    long h = before;
    for (int what = 0; what <= 5; what++) {
      h = mix(h, about(person, what));
    }
    h = mix(mix(h, owes(person, 0)), owes(person, 1));
    h = mix(mix(h, hands(person, 2, 0)), hands(person, 2, 1));
    return mix(h, ask(person, 2));
  }

  private static long mix(long h, int number) {
    return 31L * h + number;
  }

  /** The pen of one of the town, or null: the books hold pens for more people than may be there. */
  private Pen penOf(int person) {
    return town.one(person) == null ? null : books.pen(person);
  }

  private static boolean holds(int bits, int person) {
    return (bits >> person & 1) == 1;
  }

  /** One term of the fraction "owed of PARTS", divided by the most that divides both terms. */
  private static int lowest(int term, int owed) {
    for (int divisor = PARTS; divisor > 1; divisor--) {
      if (owed % divisor == 0 && PARTS % divisor == 0) {
        return term / divisor;
      }
    }
    return term;
  }

  /** What one of those who are bound owes of a debt, in PARTS; 0 where nobody is bound. */
  private static int shareOf(int debt, int bound) {
    int sharers = Integer.bitCount(bound);
    return sharers < 1 ? 0 : debt * PARTS / sharers;
  }

  /** THE PAGE: letters from which a town may be read. */
  private static final class Page {
    private final int[] codes = new int[MOST_LETTERS];
    private int size;

    int size() {
      return size;
    }

    int codeAt(int place) {
      return place < 0 || place >= size || place >= codes.length ? 0 : codes[place];
    }

    boolean add(int code) {
      if (size >= codes.length) {
        return false;
      }
      codes[size] = code;
      size++;
      return true;
    }

    void clear() {
      size = 0;
    }

    int firstFault() {
      boolean ended = false;
      for (int place = 0; place < size; place++) {
        if (ended) {
          return isLimit(codeAt(place)) ? place + 1 : place;
        }
        if (!fitsPeople(place)) {
          return place;
        }
        ended = codeAt(place) == ';';
      }
      return size;
    }

    /** Whether the page is a whole town, and not only the beginning of one. */
    boolean isTown() {
      return size >= 2 && codeAt(size - 2) == ';' && firstFault() == size;
    }

    private boolean fitsPeople(int place) {
      int code = codeAt(place);
      int people = place / 3 + 1;
      switch (place % 3) {
        case 0: return KIND_LETTERS.indexOf((char) code) >= 0;
        case 1: return code >= '0' && code <= '9';
        default: return code == ',' && people < MOST_PEOPLE || code == ';' && people >= LEAST_PEOPLE;
      }
    }

    private static boolean isLimit(int code) {
      return code >= '1' && code <= '0' + MOST_LIMIT;
    }
  }

  /** One of the town; every kind is a Person. */
  private static class Person {
    private final int value;

    Person(int value) {
      this.value = value;
    }

    int kind() {
      return PERSON;
    }

    int worth() {
      return value;
    }

    boolean keepsPens() {
      return false;
    }

    boolean endsTheRow() {
      return false;
    }

    boolean canBeBound() {
      return true;
    }
  }

  private static class Bishop extends Person {
    Bishop(int value) {
      super(value);
    }

    int kind() {
      return BISHOP;
    }

    boolean keepsPens() {
      return true;
    }
  }

  private static final class Abbot extends Bishop {
    Abbot(int value) {
      super(value);
    }

    int kind() {
      return ABBOT;
    }

    int worth() {
      return 2 * super.worth();
    }
  }

  private static final class Thief extends Person {
    Thief(int value) {
      super(value);
    }

    int kind() {
      return THIEF;
    }

    boolean endsTheRow() {
      return true;
    }
  }

  private static final class Boy extends Person {
    Boy(int value) {
      super(value);
    }

    int kind() {
      return BOY;
    }

    boolean canBeBound() {
      return false;
    }
  }

  /** The hands through which one pen has gone, its owner's first. */
  private static final class Pen {
    private final int[] hands = new int[MOST_LENT + 1];
    private int lent;

    void startWith(int owner) {
      hands[0] = owner;
      lent = 0;
    }

    void copyFrom(Pen other) {
      System.arraycopy(other.hands, 0, hands, 0, hands.length);
      lent = other.lent;
    }

    int timesLent() {
      return lent;
    }

    boolean isLentOut() {
      return lent >= MOST_LENT;
    }

    int holder() {
      return lent < 0 || lent >= hands.length ? NONE : hands[lent];
    }

    int holderBefore(int back) {
      int place = lent - back;
      return back < 0 || place < 0 || place >= hands.length ? NONE : hands[place];
    }

    void passTo(int to) {
      if (lent + 1 < hands.length) {
        lent++;
        hands[lent] = to;
      }
    }

    void takeBack() {
      if (lent > 0) {
        lent--;
      }
    }
  }

  /** The people and the limit: what a text tells, and what follows from it for a pen. */
  private static final class Town {
    private final Person[] people = new Person[MOST_PEOPLE];
    private int size;
    private int limit;

    int size() {
      return size;
    }

    int limit() {
      return limit;
    }

    boolean isEmpty() {
      return size == 0;
    }

    int everyone() {
      return (1 << size) - 1;
    }

    /** One by number; null if the number names nobody. */
    Person one(int number) {
      return number < 0 || number >= size || number >= people.length ? null : people[number];
    }

    /** The page must be a whole town: each one takes three letters, the limit one more. */
    void readFrom(Page page) {
      size = Math.min(page.size() / 3, people.length);
      for (int i = 0; i < size; i++) {
        people[i] = newPerson(page.codeAt(3 * i), page.codeAt(3 * i + 1) - '0');
      }
      limit = page.codeAt(page.size() - 1) - '0';
    }

    private static Person newPerson(int letter, int value) {
      switch (KIND_LETTERS.indexOf((char) letter)) {
        case BISHOP: return new Bishop(value);
        case THIEF: return new Thief(value);
        case BOY: return new Boy(value);
        case ABBOT: return new Abbot(value);
        default: return new Person(value);
      }
    }

    /** Whether who has the pen would give it to that one, worn as it may be. */
    boolean wouldPass(Pen pen, int to) {
      Person holder = one(pen.holder());
      return holder != null && !holder.keepsPens() && pen.holder() != to;
    }

    boolean canBeLent(Pen pen, int to) {
      return wouldPass(pen, to) && !pen.isLentOut();
    }

    /** A boy takes one of the places that the limit gives, though he is not bound. */
    int boundBy(Pen pen) {
      int seen = 0;
      int bound = 0;
      for (int back = 0; back <= pen.timesLent() && Integer.bitCount(seen) < limit; back++) {
        int number = pen.holderBefore(back);
        Person one = one(number);
        if (one == null || holds(seen, number)) {
          continue;
        }
        seen |= 1 << number;
        if (one.canBeBound()) {
          bound |= 1 << number;
        }
        if (one.endsTheRow()) {
          break;
        }
      }
      return bound;
    }

    int worthOf(int bits) {
      int sum = 0;
      for (int i = 0; i < size; i++) {
        Person one = one(i);
        if (one != null && holds(bits, i)) {
          sum += one.worth();
        }
      }
      return sum;
    }
  }

  /** All that an image keeps: pens, deeds, what is heard. */
  private static final class Books {
    private final Pen[] pens = new Pen[MOST_PEOPLE];
    private final int[] debts = new int[MOST_DEEDS];
    private final int[] bound = new int[MOST_DEEDS];
    private int deeds;
    private int heard;
    private int heardBound;
    private int heardUnbound;

    Books() {
      for (int i = 0; i < pens.length; i++) {
        pens[i] = new Pen();
      }
    }

    void clear() {
      for (int i = 0; i < pens.length; i++) {
        Pen pen = pen(i);
        if (pen != null) {
          pen.startWith(i);
        }
      }
      deeds = 0;
      clearHeard();
    }

    void copyFrom(Books other) {
      for (int i = 0; i < pens.length; i++) {
        Pen pen = pen(i);
        Pen source = other.pen(i);
        if (pen != null && source != null) {
          pen.copyFrom(source);
        }
      }
      System.arraycopy(other.debts, 0, debts, 0, debts.length);
      System.arraycopy(other.bound, 0, bound, 0, bound.length);
      deeds = other.deeds;
      heard = other.heard;
      heardBound = other.heardBound;
      heardUnbound = other.heardUnbound;
    }

    /** A pen by number; null if the number names none. */
    Pen pen(int number) {
      return number < 0 || number >= pens.length ? null : pens[number];
    }

    int timesLent() {
      int sum = 0;
      for (Pen pen : pens) {
        sum += pen == null ? 0 : pen.timesLent();
      }
      return sum;
    }

    int pensWith(int person) {
      int sum = 0;
      for (Pen pen : pens) {
        sum += pen != null && pen.holder() == person ? 1 : 0;
      }
      return sum;
    }

    int deeds() {
      return deeds;
    }

    boolean isDeed(int number) {
      return number >= 0 && number < deeds && number < debts.length && number < bound.length;
    }

    boolean addDeed(int debt, int people) {
      if (deeds >= debts.length || deeds >= bound.length) {
        return false;
      }
      debts[deeds] = debt;
      bound[deeds] = people;
      deeds++;
      return true;
    }

    int debtOf(int number) {
      return isDeed(number) ? debts[number] : 0;
    }

    int boundByDeed(int number) {
      return isDeed(number) ? bound[number] : 0;
    }

    void unbind(int number, int person) {
      if (isDeed(number)) {
        bound[number] &= ~(1 << person);
      }
    }

    int voidDeeds() {
      int sum = 0;
      for (int i = 0; i < deeds; i++) {
        sum += boundByDeed(i) == 0 ? 1 : 0;
      }
      return sum;
    }

    int deedsBinding(int person) {
      int sum = 0;
      for (int i = 0; i < deeds; i++) {
        sum += holds(boundByDeed(i), person) ? 1 : 0;
      }
      return sum;
    }

    int partsOwedBy(int person) {
      int sum = 0;
      for (int i = 0; i < deeds; i++) {
        int people = boundByDeed(i);
        sum += holds(people, person) ? shareOf(debtOf(i), people) : 0;
      }
      return sum;
    }

    /** Rising bits, and only fewer people take the place of a find: so the least bits stay. */
    int fewestBreakers(int everyone) {
      int best = everyone;
      for (int bits = 0; bits < everyone; bits++) {
        if (Integer.bitCount(bits) < Integer.bitCount(best) && breaksAll(bits)) {
          best = bits;
        }
      }
      return best;
    }

    private boolean breaksAll(int found) {
      for (int i = 0; i < deeds; i++) {
        int people = boundByDeed(i);
        if (people != 0 && (people & found) == 0) {
          return false;
        }
      }
      return true;
    }

    int heard() {
      return heard;
    }

    boolean addHeard(int person, boolean isBound) {
      if (heard >= MOST_HEARD) {
        return false;
      }
      heard++;
      if (isBound) {
        heardBound |= 1 << person;
      } else {
        heardUnbound |= 1 << person;
      }
      return true;
    }

    void clearHeard() {
      heard = 0;
      heardBound = 0;
      heardUnbound = 0;
    }

    boolean agreesWithHeard(int people) {
      return (people & heardBound) == heardBound && (people & heardUnbound) == 0;
    }
  }

  /** Follows the lendings that could come next, on a pen of its own. */
  private static final class Search {
    private final Pen pen = new Pen();
    private final int[] waysBound = new int[MOST_PEOPLE];
    private int ways;
    private int holders;
    private int fewest;
    private int first;

    int ways() {
      return ways;
    }

    int holders() {
      return holders;
    }

    int fewest() {
      return fewest;
    }

    int first() {
      return first;
    }

    /** All ways to lend so often after which what is heard is so. */
    void tally(Town town, Pen start, int times, Books heard) {
      pen.copyFrom(start);
      ways = 0;
      holders = 0;
      for (int i = 0; i < waysBound.length; i++) {
        waysBound[i] = 0;
      }
      follow(town, heard, Math.min(times, MOST_AHEAD));
    }

    private void follow(Town town, Books heard, int left) {
      if (left <= 0) {
        tallyEnd(town.boundBy(pen), heard);
        return;
      }
      for (int to = 0; to < town.size(); to++) {
        if (town.canBeLent(pen, to)) {
          pen.passTo(to);
          follow(town, heard, left - 1);
          pen.takeBack();
        }
      }
    }

    private void tallyEnd(int bound, Books heard) {
      if (!heard.agreesWithHeard(bound)) {
        return;
      }
      ways++;
      holders |= 1 << pen.holder();
      for (int i = 0; i < waysBound.length; i++) {
        waysBound[i] += holds(bound, i) ? 1 : 0;
      }
    }

    /** Of the ways tallied: whose answer leaves fewest at worst. */
    int bestAsked(int people) {
      int best = NONE;
      int fewestLeft = ways;
      for (int i = 0; i < people && i < waysBound.length && ways > 0; i++) {
        int left = Math.max(waysBound[i], ways - waysBound[i]);
        if (best == NONE || left < fewestLeft) {
          best = i;
          fewestLeft = left;
        }
      }
      return best;
    }

    /** The fewest lendings after which just these are bound, and to whom the first of them goes. */
    void seek(Town town, Pen start, int set) {
      pen.copyFrom(start);
      fewest = NONE;
      first = NONE;
      for (int times = 0; times <= MOST_AHEAD && fewest == NONE; times++) {
        if (reaches(town, set, times)) {
          fewest = times;
        }
      }
    }

    /** The outermost level returns last, so what stands in first is to whom the first time. */
    private boolean reaches(Town town, int set, int left) {
      if (left <= 0) {
        return town.boundBy(pen) == set;
      }
      for (int to = 0; to < town.size(); to++) {
        if (town.canBeLent(pen, to)) {
          pen.passTo(to);
          boolean reached = reaches(town, set, left - 1);
          pen.takeBack();
          if (reached) {
            first = to;
            return true;
          }
        }
      }
      return false;
    }
  }

  /** Fairs as they would be, on books of its own. */
  private static final class Fair {
    private final Books trial = new Books();
    private int seed;
    private int unsigned;
    private int partsOwed;

    int seed() {
      return seed;
    }

    int unsigned() {
      return unsigned;
    }

    int partsOwed() {
      return partsOwed;
    }

    void open(Books books, int firstSeed) {
      trial.copyFrom(books);
      seed = firstSeed;
      unsigned = 0;
      partsOwed = 0;
    }

    /** All three draws are made each time, whatever comes of the lending and the signing. */
    void holdOne(Town town) {
      Pen pen = trial.pen(draw(town.size()));
      int to = draw(town.size());
      int debt = 1 + draw(MOST_DEBT);
      if (pen == null) {
        return;
      }
      if (town.canBeLent(pen, to)) {
        pen.passTo(to);
      }
      int bound = town.boundBy(pen);
      if (bound == 0) {
        unsigned++;
      } else if (holds(bound, 0)) {
        partsOwed += shareOf(debt, bound);
      }
    }

    private int draw(int choices) {
      seed = (int) ((1103515245L * seed + 12345L) % (1L << 31));
      return choices < 1 ? 0 : seed / 65536 % choices;
    }
  }
}
