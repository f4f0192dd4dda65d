/** Promise by promise: the least and the greatest number that is taken, those beside them, what is full, what is none. */
public final class EdgeTest {
  private static final int BAD = HopYard.BAD, STATE = HopYard.STATE, FULL = HopYard.FULL, NONE = HopYard.NONE;
  private static final int MIN = Integer.MIN_VALUE, MAX = Integer.MAX_VALUE;

  private static void due(String call, long got, long want) {
    Check.due(call, got, want);
  }

  public static void main(String[] args) {
    Check.says("HOUR 0, no GARDENS, GANGS, KILNS"); newObject();
    Check.says("A GARDEN: its number. BAD; FULL."); garden();
    Check.says("A GANG: its number. BAD; FULL."); gang();
    Check.says("A GANG goes to a GARDEN (NONE: to none): where it was (NONE)"); sends();
    Check.says("BAD is told as -2 (sends)"); sendsBad();
    Check.says("A KILN: its number. BAD; FULL."); kiln();
    Check.says("A READING of a KILN (NONE: it is MISSING): what it was. BAD."); read();
    Check.says("DRYING of a KILN by a READING 0 .. 100. BAD."); drying();
    Check.says("WAIT (1 .. 24) becomes v: what it was. BAD."); waits();
    Check.says("So many HOURS (1 .. 24): NOW. BAD"); hours();
    Check.says("STATE: above 480"); hoursToTheEnd();
    Check.says("Of a GARDEN: 0 BUSHELS left, 1 picked ever, 2 its GREEN that waits, 3 in KILNS, 4 LOST, 5 DRIED. BAD."); about();
    Check.says("Of a GANG: 0 picked ever, 1 TOLD ever, 2 PAY ever, 3 where it is (NONE)"); tally();
    Check.says("BAD is told as -2 (tally)"); tallyBad();
    Check.says("Of a KILN: 0 BUSHELS in it, 1 SHARE, 2 READING, 3 GARDENS in it as bits. BAD."); in();
    Check.says("GREEN in all that was picked so many HOURS ago (0: in the HOUR ahead of NOW; 0 .. 23). BAD."); green(); greenThatStillWaits();
    Check.says("Of a POCKET that is led: 0 GARDENS, 1 its DAY, 2 its DUTY. BAD."); pocket();
    Check.says("0 NOW, 1 GARDENS, 2 GANGS, 3 KILNS, 4 POCKETS pressed ever, 5 LOOSE, 6 CHARGED, 7 LOST in all, 8 GREEN in all, 9 PAY in all. BAD."); count();
    Check.says("BAD: the HOUR is NOW .. 480, v 1 .. 50"); price();
    Check.says("FULL: 20 told (price)"); twentyPrices();
    Check.says("THE PRICE of an HOUR 0 .. 480. BAD."); priced();
    Check.says("BAD: the DAY 0 .. 40, v 0 .. 100; STATE: it has begun"); act();
    Check.says("FULL: 20 told (act)"); twentyActs();
    Check.says("The DUTY of a DAY 0 .. 40. BAD."); duty();
    Check.says("BOUND."); bound();
    Check.says("MOST on a DAY 0 .. 40: how much (what = 0), its number (1). BAD."); most();
    Check.says("THE TRACE."); trace();
    Check.end();
  }

  private static void newObject() {
    HopYard x = new HopYard();
    for (int what = 0; what <= 9; what++) due("count(" + what + ")", x.count(what), 0);
    for (int i = 0; i < 6; i++) {
      due("about(" + i + ", 0)", x.about(i, 0), BAD);
      due("tally(" + i + ", 0)", x.tally(i, 0), -2);
      due("in(" + i + ", 0)", x.in(i, 0), BAD);
      due("read(" + i + ", NONE)", x.read(i, NONE), BAD);
      due("drying(" + i + ", 50)", x.drying(i, 50), BAD);
      due("sends(" + i + ", NONE)", x.sends(i, NONE), -2);
      due("pocket(" + i + ", 0)", x.pocket(i, 0), BAD);
    }
    due("waits(10): what it was at first", x.waits(10), 10);
    due("bound()", x.bound(), 0);
    due("trace()", x.trace(), 0);
    due("hours(24) of an empty yard", x.hours(24), 24);
    for (int what = 1; what <= 9; what++) due("count(" + what + ") after a day of nothing", x.count(what), 0);
    // Two objects have nothing in common.
    HopYard one = Yards.oneGang(10, 10, 100);
    HopYard other = new HopYard();
    one.hours(3);
    due("count(0) of the other", other.count(0), 0);
    due("count(1) of the other", other.count(1), 0);
    due("green(2) of the other", other.green(2), 0);
    due("garden of the other", other.garden(1, 0, 0), 0);
    due("count(1) of the one", one.count(1), 1);
    due("green(2) of the one", one.green(2), 10);
  }

  private static void garden() {
    HopYard x = new HopYard();
    for (int bushels : new int[] {0, -1, 5001, NONE, MIN, MAX}) due("garden(" + bushels + ", 0, 40)", x.garden(bushels, 0, 40), BAD);
    for (int from : new int[] {-1, 41, NONE, MIN, MAX}) due("garden(1, " + from + ", 40)", x.garden(1, from, 40), BAD);
    for (int to : new int[] {-1, 41, NONE, MIN, MAX}) due("garden(1, 0, " + to + ")", x.garden(1, 0, to), BAD);
    due("garden(1, 40, 39): up to a day ahead of it", x.garden(1, 40, 39), BAD);
    due("garden(MAX, MAX, MAX)", x.garden(MAX, MAX, MAX), BAD);
    due("garden(MIN, MIN, MIN)", x.garden(MIN, MIN, MIN), BAD);
    due("count(1)", x.count(1), 0);
    int[][] taken = {{1, 0, 0}, {5000, 40, 40}, {1, 0, 40}, {5000, 0, 40}, {2500, 20, 20}, {4999, 1, 39}};
    for (int i = 0; i < 6; i++) due("garden " + i, x.garden(taken[i][0], taken[i][1], taken[i][2]), i);
    due("garden, a seventh", x.garden(1, 0, 0), FULL);
    due("garden, an eighth", x.garden(5000, 40, 40), FULL);
    for (int i = 0; i < 6; i++) due("about(" + i + ", 0)", x.about(i, 0), taken[i][0]);
    due("count(1)", x.count(1), 6);
    // A garden may come at any hour, also of days that are past.
    HopYard late = new HopYard();
    Yards.to(late, 480);
    due("garden(1, 0, 0) at 480", late.garden(1, 0, 0), 0);
  }

  private static void gang() {
    HopYard x = new HopYard();
    for (int rate : new int[] {0, -1, 31, NONE, MIN, MAX}) due("gang(" + rate + ", 100)", x.gang(rate, 100), BAD);
    for (int measure : new int[] {79, 121, 0, -1, -100, NONE, MIN, MAX}) due("gang(1, " + measure + ")", x.gang(1, measure), BAD);
    due("gang(MIN, MIN)", x.gang(MIN, MIN), BAD);
    due("count(2)", x.count(2), 0);
    int[][] taken = {{1, 80}, {30, 120}, {1, 120}, {30, 80}, {15, 100}, {29, 119}};
    for (int i = 0; i < 6; i++) due("gang " + i, x.gang(taken[i][0], taken[i][1]), i);
    due("gang, a seventh", x.gang(1, 80), FULL);
    due("gang, an eighth", x.gang(30, 120), FULL);
    due("count(2)", x.count(2), 6);
    for (int i = 0; i < 6; i++) due("tally(" + i + ", 3)", x.tally(i, 3), NONE);
    HopYard late = new HopYard();
    Yards.to(late, 480);
    due("gang(1, 80) at 480", late.gang(1, 80), 0);
  }

  private static void sends() {
    HopYard x = new HopYard();
    for (int i = 0; i < 6; i++) x.garden(5000, 0, 40);
    for (int i = 0; i < 6; i++) x.gang(1, 100);
    due("sends(0, NONE): it is at none", x.sends(0, NONE), NONE);
    due("sends(0, 0)", x.sends(0, 0), NONE);
    due("sends(0, 0): where it is", x.sends(0, 0), 0);
    due("sends(0, 5)", x.sends(0, 5), 0);
    due("sends(5, 5): two at one", x.sends(5, 5), NONE);
    due("sends(0, NONE)", x.sends(0, NONE), 5);
    due("sends(0, 1)", x.sends(0, 1), NONE);
    due("tally(0, 3)", x.tally(0, 3), 1);
    due("tally(5, 3): another gang stays", x.tally(5, 3), 5);
    due("tally(1, 3): another gang stays", x.tally(1, 3), NONE);
    x.hours(1);
    due("about(1, 1)", x.about(1, 1), 1);
    due("about(5, 1)", x.about(5, 1), 1);
    due("about(0, 1)", x.about(0, 1), 0);
    // A garden that is not ripe, or that is empty, may be gone to all the same.
    HopYard y = new HopYard();
    y.garden(1, 40, 40);
    y.garden(1, 0, 40);
    y.gang(1, 100);
    due("sends(0, 0): not ripe", y.sends(0, 0), NONE);
    due("sends(0, 1)", y.sends(0, 1), 0);
    y.hours(2);
    due("sends(0, 1): nothing is left", y.sends(0, 1), 1);
    due("tally(0, 3)", y.tally(0, 3), 1);
  }

  private static void sendsBad() {
    HopYard x = new HopYard();
    x.garden(10, 0, 40);
    x.gang(1, 100);
    x.sends(0, 0);
    for (int garden : new int[] {1, -1, -2, -8, -10, 6, MIN, MAX}) due("sends(0, " + garden + ")", x.sends(0, garden), -2);
    for (int gang : new int[] {1, -1, 6, NONE, MIN, MAX}) {
      due("sends(" + gang + ", 0)", x.sends(gang, 0), -2);
      due("sends(" + gang + ", NONE)", x.sends(gang, NONE), -2);
    }
    due("tally(0, 3), as it was", x.tally(0, 3), 0);
  }

  private static void kiln() {
    HopYard x = new HopYard();
    for (int kind : new int[] {-1, 3, NONE, MIN, MAX}) due("kiln(" + kind + ", 1)", x.kiln(kind, 1), BAD);
    for (int room : new int[] {0, -1, 201, NONE, MIN, MAX}) due("kiln(0, " + room + ")", x.kiln(0, room), BAD);
    due("kiln(MAX, MIN)", x.kiln(MAX, MIN), BAD);
    due("count(3)", x.count(3), 0);
    int[][] taken = {{0, 1}, {2, 200}, {1, 200}, {2, 1}};
    for (int i = 0; i < 4; i++) due("kiln " + i, x.kiln(taken[i][0], taken[i][1]), i);
    due("kiln, a fifth", x.kiln(0, 1), FULL);
    due("kiln, a sixth", x.kiln(2, 200), FULL);
    due("count(3)", x.count(3), 4);
    due("bound(): 1 by 6, 200 by 3, 200 by 5, 1 by 3", x.bound(), 106);
  }

  private static void read() {
    HopYard x = new HopYard();
    x.kiln(0, 10);
    x.kiln(0, 10);
    for (int reading : new int[] {-1, 101, -8, -10, MIN, MAX}) due("read(0, " + reading + ")", x.read(0, reading), BAD);
    for (int kiln : new int[] {-1, 2, 4, NONE, MIN, MAX}) {
      due("read(" + kiln + ", 50)", x.read(kiln, 50), BAD);
      due("read(" + kiln + ", NONE)", x.read(kiln, NONE), BAD);
    }
    due("read(0, 0)", x.read(0, 0), 50);
    due("read(0, NONE)", x.read(0, NONE), 0);
    due("read(0, 100)", x.read(0, 100), 0);
    due("read(0, 100): as it is", x.read(0, 100), 100);
    due("read(0, NONE)", x.read(0, NONE), 100);
    due("in(0, 2)", x.in(0, 2), 100);
    due("in(1, 2): another kiln stays", x.in(1, 2), 50);
  }

  private static void drying() {
    HopYard x = new HopYard();
    for (int kind = 0; kind < 3; kind++) x.kiln(kind, 10);
    for (int reading : new int[] {-1, 101, NONE, MIN, MAX}) {
      for (int k = 0; k < 3; k++) due("drying(" + k + ", " + reading + ")", x.drying(k, reading), BAD);
    }
    for (int kiln : new int[] {-1, 3, 4, NONE, MIN, MAX}) due("drying(" + kiln + ", 50)", x.drying(kiln, 50), BAD);
    int[][] rows = {{0, 0, 0}, {20, 23, 40}};
    for (int k = 0; k < 3; k++) {
      due("drying(" + k + ", 0)", x.drying(k, 0), rows[0][k]);
      due("drying(" + k + ", 100)", x.drying(k, 100), rows[1][k]);
      due("in(" + k + ", 2): its own reading stays", x.in(k, 2), 50);
    }
    // Each reading there is, by each kind.
    for (int reading = 0; reading <= 100; reading++) {
      int up = reading / 5;
      int draught = reading < 40 ? up : up + 3;
      due("drying(0, " + reading + ")", x.drying(0, reading), up);
      due("drying(1, " + reading + ")", x.drying(1, reading), draught);
      due("drying(2, " + reading + ")", x.drying(2, reading), Math.min(40, draught + draught));
    }
  }

  private static void waits() {
    HopYard x = new HopYard();
    for (int v : new int[] {0, -1, 25, NONE, MIN, MAX}) due("waits(" + v + ")", x.waits(v), BAD);
    due("waits(1): 10 at first", x.waits(1), 10);
    due("waits(24)", x.waits(24), 1);
    due("waits(24): as it is", x.waits(24), 24);
    due("waits(25)", x.waits(25), BAD);
    due("waits(0)", x.waits(0), BAD);
    due("waits(12): as it was ahead of what was refused", x.waits(12), 24);
  }

  private static void hours() {
    HopYard x = new HopYard();
    for (int n : new int[] {0, -1, 25, NONE, MIN, MAX}) due("hours(" + n + ")", x.hours(n), BAD);
    due("count(0)", x.count(0), 0);
    due("hours(1)", x.hours(1), 1);
    due("hours(24)", x.hours(24), 25);
    // Hours by one call are the same hours as one by one.
    HopYard many = Yards.oneGang(100, 7, 90), single = Yards.oneGang(100, 7, 90);
    Yards.kilnRead(many, 1, 20, 60);
    Yards.kilnRead(single, 1, 20, 60);
    many.hours(24);
    for (int i = 0; i < 24; i++) single.hours(1);
    for (int what = 0; what <= 9; what++) due("count(" + what + ") of hours(24)", many.count(what), single.count(what));
    for (int what = 0; what <= 5; what++) due("about(0, " + what + ") of hours(24)", many.about(0, what), single.about(0, what));
  }

  private static void hoursToTheEnd() {
    HopYard x = Yards.oneGang(5000, 1, 100);
    Yards.to(x, 456);
    due("hours(24) to 480", x.hours(24), 480);
    due("hours(1) to 481", x.hours(1), STATE);
    due("hours(24) to 504", x.hours(24), STATE);
    due("hours(25)", x.hours(25), BAD);
    due("count(0)", x.count(0), 480);
    due("tally(0, 0)", x.tally(0, 0), 480);
    HopYard y = Yards.oneGang(5000, 1, 100);
    Yards.to(y, 457);
    due("hours(24) to 481", y.hours(24), STATE);
    due("count(0): not a part of it", y.count(0), 457);
    due("tally(0, 0): not a part of it", y.tally(0, 0), 457);
    due("hours(23) to 480", y.hours(23), 480);
    HopYard z = new HopYard();
    Yards.to(z, 479);
    due("hours(2) to 481", z.hours(2), STATE);
    due("hours(1) to 480", z.hours(1), 480);
  }

  private static void about() {
    HopYard x = Yards.oneGang(20, 10, 100);
    x.garden(9, 0, 40);
    for (int garden : new int[] {-1, 2, 6, NONE, MIN, MAX}) {
      for (int what = 0; what <= 5; what++) due("about(" + garden + ", " + what + ")", x.about(garden, what), BAD);
    }
    for (int what : new int[] {-1, 6, NONE, MIN, MAX}) due("about(0, " + what + ")", x.about(0, what), BAD);
    dueAbout("at first", x, 20, 0, 0, 0, 0, 0);
    x.waits(2);
    Yards.kilnRead(x, 2, 3, 100);
    x.hours(1);
    dueAbout("10 picked, 3 taken", x, 10, 10, 7, 3, 0, 0);
    x.hours(1);
    dueAbout("all picked", x, 0, 20, 17, 3, 0, 0);
    x.hours(1);
    dueAbout("3 dried, 7 lost, 3 taken", x, 0, 20, 7, 3, 7, 3);
    x.hours(1);
    dueAbout("the rest is lost", x, 0, 20, 0, 3, 14, 3);
    x.hours(1);
    dueAbout("the last are dried", x, 0, 20, 0, 0, 14, 6);
    due("about(1, 0): another garden stays", x.about(1, 0), 9);
    aboutOfManyHours();
    for (int what = 1; what <= 5; what++) due("about(1, " + what + ")", x.about(1, what), 0);
  }

  /** Green of many hours is one number, in whatever hour it is asked, and so is what a kiln took of many hours. */
  private static void aboutOfManyHours() {
    HopYard x = new HopYard();
    x.garden(5000, 0, 40);
    x.garden(5000, 0, 40);
    x.gang(2, 100);
    x.gang(3, 100);
    x.sends(0, 0);
    x.sends(1, 1);
    x.waits(24);
    for (int hour = 1; hour <= 80; hour++) {
      x.hours(1);
      due("about(0, 2) at " + hour, x.about(0, 2), 2 * Math.min(24, hour));
      due("about(1, 2) at " + hour, x.about(1, 2), 3 * Math.min(24, hour));
    }
    x.kiln(0, 200);
    x.kiln(0, 1);
    x.hours(1);
    due("in(0, 0): of all hours", x.in(0, 0), 120);
    due("about(0, 3): of all hours", x.about(0, 3), 48);
    due("about(1, 3): of all hours", x.about(1, 3), 72);
    due("count(8)", x.count(8), 0);
    x.kiln(0, 7);
    x.hours(1);
    // Kiln 1 takes one of garden 0, kiln 2 the other one of it and three of garden 1.
    due("about(0, 3): in three kilns", x.about(0, 3), 50);
    due("about(1, 3): in two kilns", x.about(1, 3), 75);
    due("in(1, 0)", x.in(1, 0), 1);
    due("in(1, 3)", x.in(1, 3), 1);
    due("in(2, 0)", x.in(2, 0), 4);
    due("in(2, 3)", x.in(2, 3), 3);
  }

  private static void dueAbout(String when, HopYard x, int... rows) {
    for (int what = 0; what < rows.length; what++) due("about(0, " + what + "), " + when, x.about(0, what), rows[what]);
  }

  private static void tally() {
    HopYard x = new HopYard();
    x.garden(40, 0, 40);
    x.gang(30, 80);
    int[] first = {0, 0, 0, NONE};
    for (int what = 0; what < 4; what++) due("tally(0, " + what + "), at first", x.tally(0, what), first[what]);
    x.sends(0, 0);
    x.hours(1);
    int[] one = {30, 37, 74, 0};
    for (int what = 0; what < 4; what++) due("tally(0, " + what + ") at 1", x.tally(0, what), one[what]);
    x.hours(1);
    int[] two = {40, 49, 98, 0};
    for (int what = 0; what < 4; what++) due("tally(0, " + what + ") at 2", x.tally(0, what), two[what]);
    x.sends(0, NONE);
    x.hours(5);
    int[] last = {40, 49, 98, NONE};
    for (int what = 0; what < 4; what++) due("tally(0, " + what + "), ever", x.tally(0, what), last[what]);
  }

  private static void tallyBad() {
    HopYard x = new HopYard();
    for (int what = 0; what < 4; what++) due("tally(0, " + what + "), no gang", x.tally(0, what), -2);
    x.gang(1, 100);
    for (int what : new int[] {-1, 4, NONE, MIN, MAX}) due("tally(0, " + what + ")", x.tally(0, what), -2);
    for (int gang : new int[] {-1, 1, 6, NONE, MIN, MAX}) {
      for (int what = 0; what < 4; what++) due("tally(" + gang + ", " + what + ")", x.tally(gang, what), -2);
    }
  }

  private static void in() {
    HopYard x = Yards.pickedAtOnce(1, 2, 3, 4, 5, 6);
    Yards.kilnRead(x, 0, 3, 0);
    Yards.kilnRead(x, 0, 17, 100);
    Yards.kilnRead(x, 0, 1, 7);
    x.kiln(0, 1);
    int[][] first = {{0, 0, 0, 0}, {0, 0, 100, 0}, {0, 0, 7, 0}, {0, 0, 50, 0}};
    int[][] then = {{3, 0, 0, 3}, {17, 20, 100, 60}, {1, 1, 7, 32}, {0, 0, 50, 0}};
    for (int k = 0; k < 4; k++) {
      for (int what = 0; what < 4; what++) due("in(" + k + ", " + what + "), at first", x.in(k, what), first[k][what]);
    }
    x.hours(2);
    for (int k = 0; k < 4; k++) {
      for (int what = 0; what < 4; what++) due("in(" + k + ", " + what + ")", x.in(k, what), then[k][what]);
    }
    for (int what : new int[] {-1, 4, NONE, MIN, MAX}) due("in(0, " + what + ")", x.in(0, what), BAD);
    for (int kiln : new int[] {-1, 4, NONE, MIN, MAX}) {
      for (int what = 0; what < 4; what++) due("in(" + kiln + ", " + what + ")", x.in(kiln, what), BAD);
    }
  }

  private static void green() {
    HopYard x = Yards.oneGang(5000, 1, 100);
    for (int hours : new int[] {-1, 24, 25, NONE, MIN, MAX}) due("green(" + hours + ")", x.green(hours), BAD);
    for (int hours = 0; hours <= 23; hours++) due("green(" + hours + ") at 0", x.green(hours), 0);
    x.waits(24);
    x.hours(1);
    for (int hours = 0; hours <= 23; hours++) due("green(" + hours + ") at 1", x.green(hours), hours == 0 ? 1 : 0);
    x.hours(22);
    for (int hours = 0; hours <= 23; hours++) due("green(" + hours + ") at 23", x.green(hours), hours < 23 ? 1 : 0);
    x.hours(1);
    for (int hours = 0; hours <= 23; hours++) due("green(" + hours + ") at 24", x.green(hours), 1);
    x.sends(0, NONE);
    x.hours(1);
    for (int hours = 0; hours <= 23; hours++) due("green(" + hours + ") at 25", x.green(hours), hours == 0 ? 0 : 1);
    // Hour by hour, round and round: no hour's green comes up as another's.
    HopYard y = Yards.oneGang(5000, 2, 100);
    y.waits(24);
    for (int hour = 0; hour < 60; hour++) {
      y.sends(0, hour % 7 == 0 ? 0 : NONE);
      y.hours(1);
      for (int ago : new int[] {0, 1, 7, 22, 23}) {
        int picked = hour - ago;
        due("green(" + ago + ") behind hour " + hour, y.green(ago), picked >= 0 && picked % 7 == 0 ? 2 : 0);
      }
    }
  }

  /** GREEN that is taken or lost is no longer there. */
  private static void greenThatStillWaits() {
    HopYard x = Yards.oneGang(30, 10, 100);
    Yards.kilnRead(x, 0, 4, 0);
    x.waits(2);
    x.hours(1);
    due("green(0): 4 are taken", x.green(0), 6);
    x.hours(1);
    due("green(1)", x.green(1), 6);
    due("green(0)", x.green(0), 10);
    x.hours(1);
    due("green(2): lost", x.green(2), 0);
    due("green(1)", x.green(1), 10);
    due("green(0)", x.green(0), 10);
  }

  private static void pocket() {
    HopYard x = Yards.pickedAtOnce(30, 30);
    Yards.kilnRead(x, 2, 60, 100);
    x.act(1, 100);
    x.hours(2);
    due("pocket(0, 0), none yet", x.pocket(0, 0), BAD);
    x.hours(1);
    int[] marks = {1, 3, 2};
    for (int p = 0; p < 3; p++) {
      due("pocket(" + p + ", 0)", x.pocket(p, 0), marks[p]);
      due("pocket(" + p + ", 1)", x.pocket(p, 1), 0);
      due("pocket(" + p + ", 2)", x.pocket(p, 2), 0);
      for (int what : new int[] {-1, 3, NONE, MIN, MAX}) due("pocket(" + p + ", " + what + ")", x.pocket(p, what), BAD);
    }
    for (int p : new int[] {-1, 3, 99, 100, NONE, MIN, MAX}) {
      for (int what = 0; what < 3; what++) due("pocket(" + p + ", " + what + ")", x.pocket(p, what), BAD);
    }
  }

  private static void count() {
    HopYard x = Yards.oneGang(100, 30, 80);
    x.garden(7, 3, 3);
    x.gang(5, 100);
    x.gang(5, 100);
    for (int k = 0; k < 4; k++) Yards.kilnRead(x, 2, k == 0 ? 25 : 1, k == 0 ? 100 : 0);
    x.waits(1);
    x.act(1, 6);
    x.hours(9);
    // Picked 30, 30, 30, 10; kiln 0 took 25 in hour 0 and in hour 2, the others 1 each in hour 0; each hour loses what it left.
    due("count(0)", x.count(0), 9);
    due("count(1)", x.count(1), 2);
    due("count(2)", x.count(2), 3);
    due("count(3)", x.count(3), 4);
    due("count(4)", x.count(4), 2);
    due("count(5)", x.count(5), 10);
    due("count(6)", x.count(6), 0);
    due("count(7): 2, 30, 5 and 10", x.count(7), 47);
    due("count(8)", x.count(8), 0);
    due("count(9): 37, 37, 37 and 12, by 2", x.count(9), 246);
    for (int what : new int[] {-1, 10, NONE, MIN, MAX}) due("count(" + what + ")", x.count(what), BAD);
  }

  private static void price() {
    HopYard x = new HopYard();
    for (int hour : new int[] {-1, 481, NONE, MIN, MAX}) due("price(" + hour + ", 5)", x.price(hour, 5), BAD);
    for (int v : new int[] {0, -1, 51, NONE, MIN, MAX}) due("price(5, " + v + ")", x.price(5, v), BAD);
    due("price(0, 1)", x.price(0, 1), 1);
    due("price(480, 50)", x.price(480, 50), 1);
    x.hours(7);
    due("price(6, 5) at 7", x.price(6, 5), BAD);
    due("price(7, 5) at 7", x.price(7, 5), 1);
    due("priced(6)", x.priced(6), 1);
    due("priced(7)", x.priced(7), 5);
    due("priced(480)", x.priced(480), 50);
  }

  private static void twentyPrices() {
    HopYard x = new HopYard();
    for (int i = 0; i < 5; i++) due("price(481, 5), refused", x.price(481, 5), BAD);
    for (int i = 0; i < 20; i++) due("price(" + i + ", " + (i + 1) + ")", x.price(i, i + 1), 1);
    due("price(20, 50), a 21st", x.price(20, 50), FULL);
    due("price(0, 50), a 21st of an hour that was told", x.price(0, 50), FULL);
    due("price(480, 50), a 21st", x.price(480, 50), FULL);
    for (int i = 0; i < 20; i++) due("priced(" + i + ")", x.priced(i), i + 1);
    due("priced(480)", x.priced(480), 20);
    x.hours(24);
    due("price(24, 50): those that are past still count", x.price(24, 50), FULL);
    // Of one hour each counts by itself.
    HopYard y = new HopYard();
    for (int i = 0; i < 20; i++) due("price(3, 9), number " + i, y.price(3, 9), 1);
    due("price(3, 9), a 21st", y.price(3, 9), FULL);
  }

  private static void priced() {
    HopYard x = new HopYard();
    for (int hour : new int[] {-1, 481, NONE, MIN, MAX}) due("priced(" + hour + ")", x.priced(hour), BAD);
    x.price(0, 3);
    x.price(480, 4);
    due("priced(0)", x.priced(0), 3);
    due("priced(479)", x.priced(479), 3);
    due("priced(480)", x.priced(480), 4);
    Yards.to(x, 480);
    due("priced(0) at 480", x.priced(0), 3);
    due("priced(480) at 480", x.priced(480), 4);
    due("priced(481) at 480", x.priced(481), BAD);
  }

  private static void act() {
    HopYard x = new HopYard();
    for (int day : new int[] {-1, 41, NONE, MIN, MAX}) due("act(" + day + ", 5)", x.act(day, 5), BAD);
    for (int v : new int[] {-1, 101, NONE, MIN, MAX}) {
      due("act(1, " + v + ")", x.act(1, v), BAD);
      due("act(0, " + v + ")", x.act(0, v), BAD);
    }
    due("act(0, 0)", x.act(0, 0), STATE);
    due("act(1, 0)", x.act(1, 0), 1);
    due("act(40, 100)", x.act(40, 100), 1);
    x.hours(1);
    due("act(0, 5) at 1", x.act(0, 5), STATE);
    x.hours(10);
    due("act(1, 5) at 11", x.act(1, 5), 1);
    x.hours(1);
    due("act(1, 6) at 12", x.act(1, 6), STATE);
    due("act(0, 6) at 12", x.act(0, 6), STATE);
    due("act(2, 6) at 12", x.act(2, 6), 1);
    due("duty(1)", x.duty(1), 5);
    Yards.to(x, 479);
    due("act(39, 7) at 479", x.act(39, 7), STATE);
    due("act(40, 7) at 479", x.act(40, 7), 1);
    x.hours(1);
    due("act(40, 8) at 480", x.act(40, 8), STATE);
    due("duty(40)", x.duty(40), 7);
  }

  private static void twentyActs() {
    HopYard x = new HopYard();
    for (int i = 0; i < 5; i++) due("act(0, 5), refused", x.act(0, 5), STATE);
    for (int i = 1; i <= 20; i++) due("act(" + i + ", " + i + ")", x.act(i, i), 1);
    due("act(21, 50), a 21st", x.act(21, 50), FULL);
    due("act(1, 50), a 21st of a day that was told", x.act(1, 50), FULL);
    for (int i = 0; i <= 20; i++) due("duty(" + i + ")", x.duty(i), i);
    due("duty(40)", x.duty(40), 20);
    x.hours(24);
    due("act(3, 50): those that are past still count", x.act(3, 50), FULL);
    HopYard y = new HopYard();
    for (int i = 0; i < 20; i++) due("act(3, 9), number " + i, y.act(3, 9), 1);
    due("act(3, 9), a 21st", y.act(3, 9), FULL);
  }

  private static void duty() {
    HopYard x = new HopYard();
    for (int day : new int[] {-1, 41, NONE, MIN, MAX}) due("duty(" + day + ")", x.duty(day), BAD);
    x.act(1, 3);
    x.act(40, 4);
    due("duty(0)", x.duty(0), 0);
    due("duty(1)", x.duty(1), 3);
    due("duty(39)", x.duty(39), 3);
    due("duty(40)", x.duty(40), 4);
    Yards.to(x, 480);
    due("duty(0) at 480", x.duty(0), 0);
    due("duty(40) at 480", x.duty(40), 4);
    due("duty(41) at 480", x.duty(41), BAD);
  }

  private static void bound() {
    HopYard x = new HopYard();
    due("bound(), no kilns", x.bound(), 0);
    x.kiln(0, 5);
    due("bound(): 5 by 6", x.bound(), 0);
    x.kiln(0, 6);
    due("bound(): 6 by 6", x.bound(), 1);
    x.kiln(2, 200);
    x.read(2, 0);
    due("bound(): one that does not dry", x.bound(), 1);
    x.read(2, 100);
    due("bound(): 200 by 2", x.bound(), 101);
    x.read(2, NONE);
    due("bound(): MISSING", x.bound(), 101);
    due("read(2, 101)", x.read(2, 101), BAD);
    due("bound(): refused", x.bound(), 101);
  }

  private static void most() {
    HopYard x = new HopYard();
    x.garden(100, 0, 0);
    x.garden(100, 40, 40);
    x.gang(1, 100);
    for (int day : new int[] {-1, 41, NONE, MIN, MAX}) {
      due("most(" + day + ", 0)", x.most(day, 0), BAD);
      due("most(" + day + ", 1)", x.most(day, 1), BAD);
    }
    for (int what : new int[] {-1, 2, NONE, MIN, MAX}) due("most(0, " + what + ")", x.most(0, what), BAD);
    due("most(0, 0)", x.most(0, 0), 12);
    due("most(0, 1)", x.most(0, 1), 1);
    due("most(1, 0)", x.most(1, 0), 0);
    due("most(1, 1)", x.most(1, 1), 0);
    due("most(40, 0)", x.most(40, 0), 12);
    due("most(40, 1)", x.most(40, 1), 2);
    Yards.to(x, 480);
    due("most(40, 0) at 480", x.most(40, 0), 12);
    // Fewer gangs and gardens than were asked of before, in another object: nothing stays behind.
    x.gang(30, 100);
    due("most(40, 0), two gangs", x.most(40, 0), 100);
    due("most(40, 1), two gangs", x.most(40, 1), 14);
    due("most(0, 0), two gangs", x.most(0, 0), 100);
    due("most(0, 1), two gangs", x.most(0, 1), 7);
    due("most(20, 0), none ripe", x.most(20, 0), 0);
    due("most(20, 1), none ripe", x.most(20, 1), 0);
  }

  private static void trace() {
    HopYard x = new HopYard();
    due("trace(), at first", x.trace(), 0);
    for (int kind = 2; kind >= 0; kind--) x.kiln(kind, 10);
    int[] marks = {111, 11, 1};
    long sum = 0;
    for (int i = 0; i < 60; i++) {
      x.drying(i % 3, i);
      sum += marks[i % 3];
      due("trace() after " + (i + 1), x.trace(), sum);
    }
    x.drying(0, 101);
    x.drying(3, 0);
    due("trace(), refused ones", x.trace(), sum);
  }
}
