/** Promises 14 and 15: way, find. */
public final class WayTest {
  private static final Check CHECK = new Check();

  public static void main(String[] args) {
    waysByTimes();
    firstIsTheLeast();
    noWay();
    waysOfAWornPen();
    refusalsOfWay();
    fortyWays();
    findings();
    findTheFewest();
    refusalsOfFind();
    CHECK.end();
  }

  private static void way(LentQuill x, int pen, int set, int times, int first) {
    CHECK.due("14: way(" + pen + ", " + set + ", 0)", times, x.way(pen, set, 0));
    CHECK.due("14: way(" + pen + ", " + set + ", 1)", first, x.way(pen, set, 1));
  }

  private static void waysByTimes() {
    LentQuill x = Check.townOf("p1,p1,p1,p1,p1;5");
    way(x, 0, 1, 0, LentQuill.NONE);
    way(x, 0, 9, 1, 3);
    way(x, 0, 13, 2, 2);
    way(x, 0, 30, LentQuill.NONE, LentQuill.NONE);
    way(x, 0, 31, 4, 1);
    way(x, 2, 31, 4, 0);
    way(x, 0, 15, 3, 1);
    CHECK.due("14: nothing is lent by it", 0, x.count(2));
    Check.lendAll(x, 0, 4);
    way(x, 0, 17, 0, LentQuill.NONE);
    way(x, 0, 31, 3, 1);
  }

  private static void firstIsTheLeast() {
    LentQuill x = Check.townOf("p1,p1,p1,p1;2");
    way(x, 0, 6, 2, 1);
    way(x, 0, 12, 2, 2);
    way(x, 3, 3, 2, 0);
    LentQuill y = Check.townOf("p1,y1,y1,t1;1");
    way(y, 0, 0, 1, 1);
    way(y, 0, 8, 1, 3);
  }

  private static void noWay() {
    LentQuill x = Check.townOf("p1,y1,b1,t1;2");
    way(x, 0, 2, LentQuill.NONE, LentQuill.NONE);
    way(x, 2, 1, LentQuill.NONE, LentQuill.NONE);
    way(x, 2, 4, 0, LentQuill.NONE);
    way(x, 0, 15, LentQuill.NONE, LentQuill.NONE);
    way(x, 0, 0, LentQuill.NONE, LentQuill.NONE);
    way(x, 0, 4, 2, 1);
  }

  private static void waysOfAWornPen() {
    LentQuill x = Check.townOf("p1,p1,p1;3");
    Check.lendToAndFro(x, 0, 1, 39);
    way(x, 0, 7, 1, 2);
    Check.lendAll(x, 0, 0);
    way(x, 0, 3, 0, LentQuill.NONE);
    way(x, 0, 7, LentQuill.NONE, LentQuill.NONE);
    LentQuill y = Check.townOf("p1,p1,p1,p1;2");
    Check.lendToAndFro(y, 0, 1, 38);
    way(y, 0, 12, 2, 2);
    Check.lendAll(y, 0, 1);
    way(y, 0, 12, LentQuill.NONE, LentQuill.NONE);
  }

  private static void refusalsOfWay() {
    LentQuill x = Check.townOf("p1,p1;2");
    CHECK.due("14: way(2, 0, 0)", LentQuill.UNKNOWN, x.way(2, 0, 0));
    CHECK.due("14: way(-1, 0, 0)", LentQuill.UNKNOWN, x.way(-1, 0, 0));
    CHECK.due("14: way(0, 4, 0)", LentQuill.OUTSIDE, x.way(0, 4, 0));
    CHECK.due("14: way(0, -1, 0)", LentQuill.OUTSIDE, x.way(0, -1, 0));
    CHECK.due("14: way(0, 3, 2)", LentQuill.OUTSIDE, x.way(0, 3, 2));
    CHECK.due("14: way(0, 3, -1)", LentQuill.OUTSIDE, x.way(0, 3, -1));
    CHECK.due("14: UNKNOWN ahead of OUTSIDE", LentQuill.UNKNOWN, x.way(2, 4, 2));
    CHECK.due("14: refused is not done", 0, x.count(8));
  }

  private static void fortyWays() {
    LentQuill x = Check.townOf("p1,p1;2");
    for (int i = 0; i < 40; i++) {
      CHECK.due("14: done so often", i, x.count(8));
      CHECK.due("14: way", i % 2 == 0 ? 1 : LentQuill.NONE, x.way(0, i % 2 == 0 ? 3 : 0, 0));
    }
    CHECK.due("14: the 41st", LentQuill.STATE, x.way(0, 3, 0));
    CHECK.due("14: OUTSIDE ahead of STATE", LentQuill.OUTSIDE, x.way(0, 4, 0));
    CHECK.due("14: UNKNOWN ahead of STATE", LentQuill.UNKNOWN, x.way(2, 3, 0));
    CHECK.due("14: done 40 times", 40, x.count(8));
    x.image();
    x.restore();
    CHECK.due("14: no image takes it back", 40, x.count(8));
  }

  private static void find(LentQuill x, int howMany, int which) {
    CHECK.due("15: find(0)", howMany, x.find(0));
    CHECK.due("15: find(1)", which, x.find(1));
  }

  private static void findings() {
    LentQuill x = Check.townOf("p1,p1,p1,p1;2");
    find(x, 0, 0);
    x.sign(3, 1);
    find(x, 1, 8);
    Check.lendAll(x, 3, 1);
    x.sign(3, 1);
    find(x, 1, 8);
    x.free(0, 3);
    find(x, 1, 2);
    x.free(1, 1);
    find(x, 1, 8);
    x.free(1, 3);
    find(x, 0, 0);
  }

  private static void findTheFewest() {
    LentQuill x = Check.townOf("p1,p1,p1,p1,p1;2");
    Check.lendAll(x, 0, 4);
    x.sign(0, 1);
    Check.lendAll(x, 1, 4);
    x.sign(1, 1);
    Check.lendAll(x, 2, 3);
    x.sign(2, 1);
    find(x, 2, 20);
    LentQuill all = Check.townOf("p1,p1,p1,p1,p1;1");
    for (int i = 0; i < 5; i++) {
      all.sign(i, 1);
    }
    find(all, 5, 31);
  }

  private static void refusalsOfFind() {
    LentQuill x = new LentQuill();
    CHECK.due("15: no town", LentQuill.STATE, x.find(1));
    CHECK.due("15: OUTSIDE ahead of STATE", LentQuill.OUTSIDE, x.find(2));
    LentQuill y = Check.townOf("p1,p1;1");
    CHECK.due("15: find(2)", LentQuill.OUTSIDE, y.find(2));
    CHECK.due("15: find(-1)", LentQuill.OUTSIDE, y.find(-1));
  }
}
