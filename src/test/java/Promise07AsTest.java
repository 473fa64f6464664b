public final class Promise07AsTest {
  public static void main(String[] args) {
    Promise promise = new Promise(7);
    hold(promise);
    promise.end();
  }

  static void hold(Promise promise) {
    ownKinds(promise);
    allArePeople(promise);
    castsThatFail(promise);
    refusals(promise);
  }

  private static void ownKinds(Promise promise) {
    promise.says("One taken as a KIND: the number");
    LentQuill x = Towns.of("a1,y1,t1,b1,p1;1");
    for (int person = 0; person < 5; person++) {
      promise.due("of his own kind", person, x.as(person, 4 - person));
    }
  }

  private static void allArePeople(Promise promise) {
    promise.says("All are PEOPLE; an ABBOT is a BISHOP, too.");
    LentQuill x = Towns.of("p1,b2,t3,y4,a5;3");
    for (int person = 0; person < 5; person++) {
      promise.due("as(" + person + ", 0)", person, x.as(person, 0));
    }
    promise.due("an abbot as a bishop", 4, x.as(4, 1));
    promise.due("a bishop as an abbot", LentQuill.NONE, x.as(1, 4));
  }

  private static void castsThatFail(Promise promise) {
    promise.says("NONE: he is none such (the cast fails).");
    LentQuill x = Towns.of("p1,b2,t3,y4,a5;3");
    for (int person = 0; person < 5; person++) {
      for (int kind = 1; kind < 5; kind++) {
        boolean such = kind == person || person == 4 && kind == 1;
        promise.due("as(" + person + ", " + kind + ")", such ? person : LentQuill.NONE,
            x.as(person, kind));
      }
    }
  }

  private static void refusals(Promise promise) {
    promise.says("UNKNOWN");
    for (int kind = 0; kind <= 4; kind++) {
      int told = kind;
      promise.unknown("as " + kind, (x, person) -> x.as(person, told));
    }
    promise.says("OUTSIDE");
    for (int person = 0; person < 5; person++) {
      int told = person;
      promise.outside("as " + person, 0, 4, (x, kind) -> x.as(told, kind));
    }
    promise.says("Refusals, of several the first as told by each call");
    promise.refused("as(5, 5)", LentQuill.UNKNOWN, x -> x.as(5, 5));
    promise.refused("as(-1, -1)", LentQuill.UNKNOWN, x -> x.as(-1, -1));
  }
}
