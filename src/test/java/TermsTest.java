/** The sentences of 'Terms' that name a boundary case, each with a test of its own. */
public final class TermsTest {
  private static final int BAD = HopYard.BAD, STATE = HopYard.STATE, FULL = HopYard.FULL, NONE = HopYard.NONE;

  private static void due(String call, long got, long want) {
    Check.due(call, got, want);
  }

  public static void main(String[] args) {
    days();
    gardensAndGangs();
    kilns();
    drying();
    picking();
    dryingHour();
    losing();
    taking();
    pockets();
    tallies();
    prices();
    acts();
    bound();
    most();
    refused();
    Check.says("An object is used for at most 512 calls after it has been made"); lastCall();
    Check.end();
  }

  // ---- days

  private static void days() {
    Check.says("NOW is an HOUR, 0 at first"); due("count(0)", new HopYard().count(0), 0);
    Check.says("a DAY has 12"); dayHasTwelve();
    Check.says("DAY d is HOURS 12 d .. 12 d + 11"); hoursOfADay();
  }

  private static void dayHasTwelve() {
    HopYard x = new HopYard();
    x.garden(5000, 0, 0);
    x.gang(1, 100);
    x.sends(0, 0);
    x.hours(24);
    due("about(0, 1): picked in a garden of one day", x.about(0, 1), 12);
  }

  private static void hoursOfADay() {
    for (int day : new int[] {0, 1, 20, 39}) {
      HopYard x = new HopYard();
      x.garden(5000, day, day);
      x.gang(1, 100);
      x.sends(0, 0);
      Yards.to(x, 12 * day);
      due("picked ahead of day " + day, x.about(0, 1), 0);
      x.hours(1);
      due("picked in hour 12 * " + day, x.about(0, 1), 1);
      x.hours(10);
      due("picked ahead of hour 12 * " + day + " + 11", x.about(0, 1), 11);
      x.hours(1);
      due("picked in hour 12 * " + day + " + 11", x.about(0, 1), 12);
      if (day < 39) x.hours(1);
      due("picked behind day " + day, x.about(0, 1), 12);
    }
    HopYard last = new HopYard();
    last.garden(5000, 40, 40);
    last.gang(1, 100);
    last.sends(0, 0);
    Yards.to(last, 480);
    due("about(0, 1): no hour of day 40 goes by", last.about(0, 1), 0);
  }

  // ---- gardens and gangs

  private static void gardensAndGangs() {
    Check.says("GARDENS (6 at most)"); sixGardens();
    Check.says("have BUSHELS (1 .. 5000)"); bushels();
    Check.says("are RIPE from a DAY on up to another one, that too (0 .. 40)"); ripeDays(); ripeFromTo();
    Check.says("GANGS (6 at most)"); sixGangs();
    Check.says("have a RATE (1 .. 30 BUSHELS an HOUR)"); rates();
    Check.says("a MEASURE (80 .. 120 hundredths of a BUSHEL)"); measures();
    Check.says("each is at a GARDEN, or at none (at first)"); atNoneAtFirst();
  }

  private static void sixGardens() {
    HopYard x = new HopYard();
    x.gang(1, 100);
    due("about(0, 0), none yet", x.about(0, 0), BAD);
    for (int g = 0; g < 6; g++) {
      due("sends(0, " + g + "), not yet there", x.sends(0, g), -2);
      due("garden " + g, x.garden(10 + g, 0, 40), g);
      due("count(1)", x.count(1), g + 1);
    }
    for (int i = 0; i < 3; i++) due("garden, a seventh", x.garden(99, 0, 40), FULL);
    due("count(1)", x.count(1), 6);
    for (int g = 0; g < 6; g++) due("about(" + g + ", 0)", x.about(g, 0), 10 + g);
    due("about(6, 0)", x.about(6, 0), BAD);
    due("sends(0, 5)", x.sends(0, 5), NONE);
    due("sends(0, 6)", x.sends(0, 6), -2);
    due("sends(0, NONE)", x.sends(0, NONE), 5);
  }

  private static void bushels() {
    HopYard x = new HopYard();
    due("garden(0, ..)", x.garden(0, 0, 40), BAD);
    due("garden(-1, ..)", x.garden(-1, 0, 40), BAD);
    due("garden(5001, ..)", x.garden(5001, 0, 40), BAD);
    due("garden(1, ..)", x.garden(1, 0, 40), 0);
    due("garden(5000, ..)", x.garden(5000, 0, 40), 1);
    due("about(0, 0)", x.about(0, 0), 1);
    due("about(1, 0)", x.about(1, 0), 5000);
    // Both can be picked to the last bushel.
    for (int g = 0; g < 6; g++) {
      x.gang(30, 100);
      x.sends(g, g == 0 ? 0 : 1);
    }
    Yards.to(x, 36);
    due("about(0, 0), picked", x.about(0, 0), 0);
    due("about(0, 1), picked", x.about(0, 1), 1);
    due("about(1, 0), after 36 hours by 150", x.about(1, 0), 0);
    due("about(1, 1), picked", x.about(1, 1), 5000);
  }

  private static void ripeDays() {
    HopYard x = new HopYard();
    int[][] refused = {{-1, 0}, {-1, -1}, {-1, 40}, {0, -1}, {0, 41}, {40, 41}, {41, 41}, {41, 40}, {1, 0}, {40, 39}, {40, 0}};
    for (int[] r : refused) due("garden(5, " + r[0] + ", " + r[1] + ")", x.garden(5, r[0], r[1]), BAD);
    due("count(1)", x.count(1), 0);
    int[][] taken = {{0, 0}, {40, 40}, {0, 40}, {39, 40}, {0, 1}, {7, 7}};
    for (int i = 0; i < 6; i++) due("garden(5, " + taken[i][0] + ", " + taken[i][1] + ")", x.garden(5, taken[i][0], taken[i][1]), i);
  }

  private static void ripeFromTo() {
    HopYard x = new HopYard();
    x.garden(5000, 2, 3);
    x.gang(1, 100);
    x.sends(0, 0);
    int[][] rows = {{24, 0}, {25, 1}, {36, 12}, {47, 23}, {48, 24}, {49, 24}, {72, 24}};
    for (int[] row : rows) {
      Yards.to(x, row[0]);
      due("about(0, 1) at " + row[0], x.about(0, 1), row[1]);
    }
    for (int day = 0; day <= 40; day++) due("most(" + day + ", 0)", x.most(day, 0), day == 2 || day == 3 ? 12 : 0);
  }

  private static void sixGangs() {
    HopYard x = new HopYard();
    due("tally(0, 0), none yet", x.tally(0, 0), -2);
    for (int i = 0; i < 6; i++) {
      due("sends(" + i + ", NONE), not yet there", x.sends(i, NONE), -2);
      due("gang " + i, x.gang(1 + i, 100), i);
      due("count(2)", x.count(2), i + 1);
    }
    for (int i = 0; i < 3; i++) due("gang, a seventh", x.gang(30, 100), FULL);
    due("count(2)", x.count(2), 6);
    x.garden(5000, 0, 40);
    for (int i = 0; i < 6; i++) x.sends(i, 0);
    due("sends(6, 0)", x.sends(6, 0), -2);
    due("tally(6, 0)", x.tally(6, 0), -2);
    x.hours(1);
    for (int i = 0; i < 6; i++) due("tally(" + i + ", 0)", x.tally(i, 0), 1 + i);
    due("about(0, 1): of six gangs", x.about(0, 1), 21);
  }

  private static void rates() {
    HopYard x = new HopYard();
    x.garden(5000, 0, 40);
    due("gang(0, 100)", x.gang(0, 100), BAD);
    due("gang(-1, 100)", x.gang(-1, 100), BAD);
    due("gang(31, 100)", x.gang(31, 100), BAD);
    due("gang(1, 100)", x.gang(1, 100), 0);
    due("gang(30, 100)", x.gang(30, 100), 1);
    x.sends(0, 0);
    x.sends(1, 0);
    x.hours(1);
    due("tally(0, 0)", x.tally(0, 0), 1);
    due("tally(1, 0)", x.tally(1, 0), 30);
  }

  private static void measures() {
    HopYard x = new HopYard();
    x.garden(5000, 0, 40);
    due("gang(30, 79)", x.gang(30, 79), BAD);
    due("gang(30, 121)", x.gang(30, 121), BAD);
    due("gang(30, 0)", x.gang(30, 0), BAD);
    due("gang(30, 80)", x.gang(30, 80), 0);
    due("gang(30, 120)", x.gang(30, 120), 1);
    x.sends(0, 0);
    x.sends(1, 0);
    x.hours(1);
    due("tally(0, 1): 3000 by 80", x.tally(0, 1), 37);
    due("tally(1, 1): 3000 by 120", x.tally(1, 1), 25);
  }

  private static void atNoneAtFirst() {
    HopYard x = new HopYard();
    x.garden(100, 0, 40);
    x.gang(30, 80);
    due("tally(0, 3)", x.tally(0, 3), NONE);
    x.hours(12);
    for (int what = 0; what < 3; what++) due("tally(0, " + what + ")", x.tally(0, what), 0);
    due("about(0, 0)", x.about(0, 0), 100);
    due("sends(0, 0)", x.sends(0, 0), NONE);
    due("tally(0, 3)", x.tally(0, 3), 0);
  }

  // ---- kilns

  private static void kilns() {
    Check.says("KILNS (4 at most)"); fourKilns();
    Check.says("are of KINDS over one another: 0 PLAIN, 1 DRAUGHT, 2 DOUBLE"); kinds();
    Check.says("Each has ROOM (1 .. 200 BUSHELS)"); rooms();
    Check.says("a READING (0 .. 100; 50 at first)"); readings();
    Check.says("is EMPTY at first"); emptyAtFirst();
    Check.says("A READING may be MISSING: it is as it was"); missing();
  }

  private static void fourKilns() {
    HopYard x = new HopYard();
    due("in(0, 0), none yet", x.in(0, 0), BAD);
    for (int k = 0; k < 4; k++) {
      due("read(" + k + ", 5), not yet there", x.read(k, 5), BAD);
      due("drying(" + k + ", 5), not yet there", x.drying(k, 5), BAD);
      due("kiln " + k, x.kiln(k % 3, 10 + k), k);
      due("count(3)", x.count(3), k + 1);
    }
    for (int i = 0; i < 3; i++) due("kiln, a fifth", x.kiln(0, 200), FULL);
    due("count(3)", x.count(3), 4);
    due("in(3, 2)", x.in(3, 2), 50);
    due("in(4, 2)", x.in(4, 2), BAD);
    due("read(4, 5)", x.read(4, 5), BAD);
    due("drying(4, 5)", x.drying(4, 5), BAD);
    due("bound(): 10 by 6, 11 by 5, 12 by 3, 13 by 6", x.bound(), 1 + 2 + 4 + 2);
  }

  private static void kinds() {
    HopYard x = new HopYard();
    due("kiln(-1, 5)", x.kiln(-1, 5), BAD);
    due("kiln(3, 5)", x.kiln(3, 5), BAD);
    for (int kind = 0; kind < 3; kind++) due("kiln(" + kind + ", 5)", x.kiln(kind, 5), kind);
    int[] dries = {10, 13, 26};
    for (int k = 0; k < 3; k++) due("drying(" + k + ", 50)", x.drying(k, 50), dries[k]);
  }

  private static void rooms() {
    HopYard x = Yards.oneGang(5000, 30, 100);
    for (int i = 1; i < 6; i++) {
      x.gang(30, 100);
      x.sends(i, 0);
    }
    x.hours(2);
    due("kiln(0, 0)", x.kiln(0, 0), BAD);
    due("kiln(0, -1)", x.kiln(0, -1), BAD);
    due("kiln(0, 201)", x.kiln(0, 201), BAD);
    due("kiln(0, 1)", x.kiln(0, 1), 0);
    due("kiln(0, 200)", x.kiln(0, 200), 1);
    x.hours(1);
    due("in(0, 0)", x.in(0, 0), 1);
    due("in(1, 0)", x.in(1, 0), 200);
    due("count(8): of 540", x.count(8), 339);
  }

  private static void readings() {
    HopYard x = new HopYard();
    x.kiln(0, 1);
    due("in(0, 2), at first", x.in(0, 2), 50);
    due("read(0, -1)", x.read(0, -1), BAD);
    due("read(0, 101)", x.read(0, 101), BAD);
    due("read(0, -10), beside NONE", x.read(0, -10), BAD);
    due("read(0, -8), beside NONE", x.read(0, -8), BAD);
    due("read(0, 0)", x.read(0, 0), 50);
    due("in(0, 2)", x.in(0, 2), 0);
    due("read(0, 100)", x.read(0, 100), 0);
    due("in(0, 2)", x.in(0, 2), 100);
  }

  private static void emptyAtFirst() {
    HopYard x = new HopYard();
    x.garden(5000, 0, 40);
    x.kiln(2, 200);
    for (int what : new int[] {0, 1, 3}) due("in(0, " + what + ")", x.in(0, what), 0);
    x.hours(24);
    for (int what : new int[] {0, 1, 3}) due("in(0, " + what + "), no green to take", x.in(0, what), 0);
    due("about(0, 3)", x.about(0, 3), 0);
  }

  private static void missing() {
    HopYard x = new HopYard();
    x.kiln(0, 60);
    due("read(0, NONE), at first", x.read(0, NONE), 50);
    due("in(0, 2)", x.in(0, 2), 50);
    x.read(0, 0);
    due("read(0, NONE), of 0", x.read(0, NONE), 0);
    due("read(0, NONE), of 0 again", x.read(0, NONE), 0);
    x.read(0, 100);
    due("read(0, NONE), of 100", x.read(0, NONE), 100);
    due("in(0, 2)", x.in(0, 2), 100);
    due("bound(): 60 by 3", x.bound(), 20);
  }

  // ---- drying by a reading

  private static void drying() {
    Check.says("PLAIN: READING by 5, rounded down (1)");
    dries(0, 1, new int[][] {{0, 0}, {1, 0}, {4, 0}, {5, 1}, {9, 1}, {10, 2}, {39, 7}, {40, 8}, {95, 19}, {99, 19}, {100, 20}});
    Check.says("DRAUGHT: up and 3, if the READING is 40 or more, else up (10)");
    dries(1, 11, new int[][] {{0, 0}, {4, 0}, {5, 1}, {38, 7}, {39, 7}, {40, 11}, {41, 11}, {44, 11}, {45, 12}, {99, 22}, {100, 23}});
    Check.says("DOUBLE: up (once), its number twice, 40 at most (100)");
    dries(2, 111, new int[][] {{0, 0}, {4, 0}, {5, 2}, {39, 14}, {40, 22}, {80, 38}, {84, 38}, {85, 40}, {89, 40}, {90, 40}, {100, 40}});
    Check.says("numbers in brackets come to THE TRACE as often as drying() asks that body"); traced();
  }

  private static void dries(int kind, int marks, int[][] rows) {
    HopYard x = new HopYard();
    x.kiln(kind, 10);
    for (int i = 0; i < rows.length; i++) {
      due("drying(0, " + rows[i][0] + ") of kind " + kind, x.drying(0, rows[i][0]), rows[i][1]);
      due("trace() of kind " + kind, x.trace(), (long) marks * (i + 1));
    }
    // What an hour dries is the same.
    for (int[] row : rows) {
      HopYard y = Yards.oneGang(5, 30, 100);
      Yards.kilnRead(y, kind, 5, row[0]);
      y.hours(2);
      due("in(0, 1) of kind " + kind + " with a reading of " + row[0], y.in(0, 1), row[1]);
    }
  }

  private static void traced() {
    HopYard x = Yards.oneGang(5000, 30, 100);
    due("trace(), at first", x.trace(), 0);
    for (int kind = 0; kind < 3; kind++) x.kiln(kind, 10);
    x.hours(24);
    x.bound();
    x.read(2, 90);
    x.in(2, 1);
    x.most(0, 0);
    due("trace(), drying() was not called", x.trace(), 0);
    x.drying(0, 101);
    x.drying(0, -1);
    x.drying(3, 50);
    x.drying(-1, 50);
    x.drying(2, NONE);
    due("trace(), drying() refused", x.trace(), 0);
    x.drying(2, 90);
    x.drying(1, 90);
    x.drying(0, 90);
    due("trace()", x.trace(), 123);
    due("trace(), again", x.trace(), 123);
  }

  // ---- step (1) of an hour

  private static void picking() {
    Check.says("(1) GANG by GANG"); lesserGangFirst();
    Check.says("at a GARDEN that is RIPE on this DAY"); ripeOnThisDay();
    Check.says("it picks its RATE, what is left at most"); leftAtMost();
    Check.says("The GREEN of this HOUR is what was picked (of each GARDEN so much)"); greenOfThisHour();
  }

  private static void lesserGangFirst() {
    HopYard x = new HopYard();
    x.garden(25, 0, 40);
    for (int i = 0; i < 4; i++) x.gang(10, 100);
    for (int i = 3; i >= 0; i--) x.sends(i, 0);
    x.hours(1);
    int[] picked = {10, 10, 5, 0};
    for (int i = 0; i < 4; i++) due("tally(" + i + ", 0)", x.tally(i, 0), picked[i]);
    x.hours(1);
    for (int i = 0; i < 4; i++) due("tally(" + i + ", 0), nothing is left", x.tally(i, 0), picked[i]);
    for (int i = 0; i < 4; i++) due("tally(" + i + ", 2), nothing is left", x.tally(i, 2), 2 * picked[i]);
  }

  private static void ripeOnThisDay() {
    HopYard x = new HopYard();
    x.garden(5000, 0, 0);
    x.garden(5000, 1, 1);
    x.gang(1, 100);
    x.gang(2, 100);
    x.sends(0, 0);
    x.sends(1, 1);
    x.hours(12);
    due("tally(0, 0) on day 0", x.tally(0, 0), 12);
    due("tally(1, 0) on day 0", x.tally(1, 0), 0);
    x.hours(12);
    due("tally(0, 0) on day 1", x.tally(0, 0), 12);
    due("tally(1, 0) on day 1", x.tally(1, 0), 24);
    x.hours(12);
    due("tally(1, 0) on day 2", x.tally(1, 0), 24);
    due("tally(1, 3): it is still there", x.tally(1, 3), 1);
  }

  private static void leftAtMost() {
    int[][] rows = {{1, 1}, {9, 9}, {10, 10}, {11, 10}, {5000, 10}};
    for (int[] row : rows) {
      HopYard x = Yards.oneGang(row[0], 10, 100);
      x.hours(1);
      due("tally(0, 0) of " + row[0], x.tally(0, 0), row[1]);
      due("about(0, 0) of " + row[0], x.about(0, 0), row[0] - row[1]);
      due("about(0, 1) of " + row[0], x.about(0, 1), row[1]);
    }
    HopYard x = Yards.oneGang(11, 10, 100);
    x.hours(2);
    due("tally(0, 0): 10 and the last one", x.tally(0, 0), 11);
    x.hours(24);
    due("tally(0, 0): nothing is left", x.tally(0, 0), 11);
    due("about(0, 0)", x.about(0, 0), 0);
  }

  private static void greenOfThisHour() {
    HopYard x = new HopYard();
    for (int g = 0; g < 3; g++) x.garden(7, 0, 40);
    for (int i = 0; i < 4; i++) x.gang(4, 100);
    x.sends(0, 0);
    x.sends(1, 0);
    x.sends(2, 2);
    x.hours(1);
    int[] green = {7, 0, 4};
    for (int g = 0; g < 3; g++) due("about(" + g + ", 2)", x.about(g, 2), green[g]);
    due("green(0)", x.green(0), 11);
    due("count(8)", x.count(8), 11);
    x.hours(1);
    due("green(0): the last of garden 2", x.green(0), 3);
    due("green(1)", x.green(1), 11);
    x.hours(1);
    due("green(0): nothing was picked", x.green(0), 0);
    due("count(8)", x.count(8), 14);
  }

  // ---- step (2) of an hour

  private static void dryingHour() {
    Check.says("one that is not EMPTY dries: its DRYING goes to its SHARE"); dries();
    Check.says("with a SHARE of 60 or more it is done"); done();
    Check.says("its BUSHELS are DRIED, it is EMPTY"); doneIsEmpty();
    Check.says("(2) KILN by KILN"); eachKilnDries();
  }

  private static void dries() {
    HopYard x = Yards.oneGang(10, 10, 100);
    Yards.kilnRead(x, 0, 10, 100);
    Yards.kilnRead(x, 0, 10, 100);
    x.hours(1);
    due("in(0, 1): not in the hour in which it takes", x.in(0, 1), 0);
    x.hours(1);
    due("in(0, 1): in the next", x.in(0, 1), 20);
    x.read(0, 45);
    x.hours(1);
    due("in(0, 1): by the reading of the hour", x.in(0, 1), 29);
    x.read(0, 4);
    x.hours(24);
    due("in(0, 1): by none", x.in(0, 1), 29);
    due("in(0, 0): by none", x.in(0, 0), 10);
    due("in(1, 1): EMPTY all the while", x.in(1, 1), 0);
    due("in(1, 0): EMPTY all the while", x.in(1, 0), 0);
  }

  private static void done() {
    // 46 and 13 are 59; 1 more is 60.
    HopYard x = Yards.oneGang(10, 10, 100);
    Yards.kilnRead(x, 1, 10, 100);
    x.hours(3);
    x.read(0, 50);
    x.hours(1);
    due("in(0, 1): 59", x.in(0, 1), 59);
    due("about(0, 5) with 59", x.about(0, 5), 0);
    x.read(0, 0);
    x.hours(1);
    due("about(0, 5) with 59 still", x.about(0, 5), 0);
    x.read(0, 5);
    x.hours(1);
    due("about(0, 5) with 60", x.about(0, 5), 10);
    // 59 and 23 are above 60.
    HopYard y = Yards.oneGang(10, 10, 100);
    Yards.kilnRead(y, 1, 10, 100);
    y.hours(3);
    y.read(0, 50);
    y.hours(1);
    y.read(0, 100);
    y.hours(1);
    due("about(0, 5) with 82", y.about(0, 5), 10);
    // Twenty, three times: 60 by itself.
    HopYard z = Yards.oneGang(10, 10, 100);
    Yards.kilnRead(z, 0, 10, 100);
    z.hours(3);
    due("in(0, 1): 40", z.in(0, 1), 40);
    z.hours(1);
    due("about(0, 5) with 60 of three hours", z.about(0, 5), 10);
  }

  private static void doneIsEmpty() {
    HopYard x = Yards.oneGang(13, 10, 100);
    Yards.kilnRead(x, 2, 10, 100);
    x.hours(3);
    due("about(0, 5)", x.about(0, 5), 10);
    due("count(5)", x.count(5), 10);
    due("in(0, 0): it takes again in the hour in which it is done", x.in(0, 0), 3);
    due("in(0, 1): from 0 again", x.in(0, 1), 0);
    x.hours(2);
    due("about(0, 5)", x.about(0, 5), 13);
    for (int what : new int[] {0, 1, 3}) due("in(0, " + what + "): there was nothing to take", x.in(0, what), 0);
    due("about(0, 3)", x.about(0, 3), 0);
    x.hours(24);
    due("in(0, 1): EMPTY", x.in(0, 1), 0);
  }

  private static void eachKilnDries() {
    HopYard x = Yards.oneGang(40, 30, 100);
    x.gang(10, 100);
    x.sends(1, 0);
    int[] readings = {100, 50, 25, 0};
    for (int k = 0; k < 4; k++) Yards.kilnRead(x, 0, 10, readings[k]);
    x.hours(3);
    int[] shares = {40, 20, 10, 0};
    for (int k = 0; k < 4; k++) due("in(" + k + ", 1)", x.in(k, 1), shares[k]);
    for (int k = 0; k < 4; k++) due("in(" + k + ", 0)", x.in(k, 0), 10);
  }

  // ---- step (3) of an hour

  private static void losing() {
    Check.says("GREEN that was picked WAIT HOURS ago or more (1 .. 24; 10 at first) is LOST");
    for (int wait = 1; wait <= 24; wait++) lostAfter(wait, true);
    lostAfter(10, false);
    orMore();
    longerWait();
    lostOfEachGarden();
    Check.says("An HOUR, in this order"); lostAheadOfTaking(); doneAheadOfTaking(); pickedAheadOfTaking();
  }

  private static void lostAfter(int wait, boolean told) {
    HopYard x = Yards.oneGang(7, 7, 100);
    if (told) due("waits(" + wait + ")", x.waits(wait), 10);
    Yards.to(x, wait);
    due("green(" + (wait - 1) + ") with a wait of " + wait, x.green(wait - 1), 7);
    due("count(7) with a wait of " + wait, x.count(7), 0);
    x.hours(1);
    due("about(0, 4) with a wait of " + wait, x.about(0, 4), 7);
    due("about(0, 2) with a wait of " + wait, x.about(0, 2), 0);
    due("count(7) with a wait of " + wait, x.count(7), 7);
    due("count(8) with a wait of " + wait, x.count(8), 0);
    x.hours(24);
    due("count(7) with a wait of " + wait + ", once", x.count(7), 7);
  }

  private static void orMore() {
    HopYard x = Yards.oneGang(5000, 3, 100);
    x.waits(24);
    x.hours(24);
    due("count(8): 24 hours wait", x.count(8), 72);
    x.waits(5);
    due("count(8): no hour went by", x.count(8), 72);
    due("count(7): no hour went by", x.count(7), 0);
    x.hours(1);
    due("count(8): this hour's and four", x.count(8), 15);
    due("count(7)", x.count(7), 60);
    due("green(4)", x.green(4), 3);
    due("green(5)", x.green(5), 0);
  }

  private static void longerWait() {
    HopYard x = Yards.oneGang(3, 3, 100);
    x.hours(10);
    x.waits(11);
    x.hours(1);
    due("count(8): saved for an hour", x.count(8), 3);
    x.hours(1);
    due("count(7): lost then", x.count(7), 3);
  }

  private static void lostOfEachGarden() {
    HopYard x = Yards.pickedAtOnce(1, 2, 3, 4, 5, 6);
    x.waits(1);
    x.hours(1);
    for (int g = 0; g < 6; g++) due("about(" + g + ", 4)", x.about(g, 4), 0);
    x.hours(1);
    for (int g = 0; g < 6; g++) due("about(" + g + ", 4)", x.about(g, 4), g + 1);
    due("count(7)", x.count(7), 21);
  }

  private static void lostAheadOfTaking() {
    HopYard x = Yards.oneGang(7, 7, 100);
    x.waits(2);
    x.hours(2);
    x.kiln(0, 7);
    x.hours(1);
    due("in(0, 0): step (3) is ahead of step (4)", x.in(0, 0), 0);
    due("count(7)", x.count(7), 7);
    HopYard y = Yards.oneGang(7, 7, 100);
    y.waits(2);
    y.hours(1);
    y.kiln(0, 7);
    y.hours(1);
    due("in(0, 0): an hour ahead of its loss", y.in(0, 0), 7);
    due("count(7)", y.count(7), 0);
  }

  private static void doneAheadOfTaking() {
    HopYard x = Yards.oneGang(30, 10, 100);
    Yards.kilnRead(x, 2, 20, 100);
    x.hours(2);
    due("in(0, 0): of hour 0 alone", x.in(0, 0), 10);
    x.hours(1);
    due("in(0, 0): step (2) is ahead of step (4)", x.in(0, 0), 20);
    due("count(8)", x.count(8), 0);
  }

  private static void pickedAheadOfTaking() {
    HopYard x = Yards.oneGang(10, 10, 100);
    x.waits(1);
    x.kiln(0, 10);
    x.hours(1);
    due("in(0, 0): step (1) is ahead of step (4)", x.in(0, 0), 10);
    due("green(0)", x.green(0), 0);
    x.hours(1);
    due("count(7): what was taken is not lost", x.count(7), 0);
  }

  // ---- step (4) of an hour

  private static void taking() {
    Check.says("(4) KILN by KILN, EMPTY ones take GREEN"); lesserKilnFirst(); onlyEmptyOnes();
    Check.says("the oldest HOUR first"); oldestFirst();
    Check.says("of one HOUR the lesser GARDENS first"); lesserGardensFirst();
    Check.says("up to their ROOM"); upToRoom();
    Check.says("SHARE 0"); shareFromNothing();
    Check.says("Then NOW is one more"); nowIsOneMore();
  }

  private static void lesserKilnFirst() {
    HopYard x = Yards.oneGang(25, 25, 100);
    x.kiln(0, 10);
    x.kiln(2, 10);
    x.kiln(1, 10);
    x.kiln(0, 10);
    x.hours(1);
    int[] loads = {10, 10, 5, 0};
    for (int k = 0; k < 4; k++) due("in(" + k + ", 0)", x.in(k, 0), loads[k]);
  }

  private static void onlyEmptyOnes() {
    HopYard x = Yards.oneGang(5000, 1, 100);
    Yards.kilnRead(x, 0, 200, 0);
    x.hours(5);
    due("in(0, 0): it has room, and is not EMPTY", x.in(0, 0), 1);
    due("count(8)", x.count(8), 4);
  }

  private static void oldestFirst() {
    HopYard x = new HopYard();
    for (int g = 0; g < 3; g++) x.garden(5000, 0, 40);
    x.gang(5, 100);
    // The older the greater, so that neither the number nor the hour alone tells.
    for (int hour = 0; hour < 3; hour++) {
      x.sends(0, 2 - hour);
      x.hours(1);
    }
    x.sends(0, NONE);
    x.kiln(0, 4);
    x.kiln(0, 4);
    x.kiln(0, 6);
    x.hours(1);
    due("in(0, 3): 4 of hour 0", x.in(0, 3), 4);
    due("in(1, 3): 1 of hour 0, 3 of hour 1", x.in(1, 3), 6);
    due("in(2, 3): 2 of hour 1, 4 of hour 2", x.in(2, 3), 3);
    int[] green = {0, 1, 0, 0};
    for (int ago = 0; ago < 4; ago++) due("green(" + ago + ")", x.green(ago), green[ago]);
    due("about(0, 3)", x.about(0, 3), 4);
    due("about(1, 3)", x.about(1, 3), 5);
    due("about(2, 3)", x.about(2, 3), 5);
    oldestOfAll();
  }

  /** Green of 23 hours ago, the oldest that a kiln can take, goes ahead of this hour's. */
  private static void oldestOfAll() {
    HopYard x = new HopYard();
    x.garden(5, 0, 40);
    x.garden(5, 0, 40);
    x.gang(5, 100);
    x.waits(24);
    x.sends(0, 1);
    x.hours(1);
    x.sends(0, NONE);
    x.hours(22);
    x.kiln(0, 6);
    x.sends(0, 0);
    x.hours(1);
    due("in(0, 3)", x.in(0, 3), 3);
    due("about(1, 3)", x.about(1, 3), 5);
    due("about(0, 3)", x.about(0, 3), 1);
    due("about(0, 2)", x.about(0, 2), 4);
    due("count(7)", x.count(7), 0);
  }

  private static void lesserGardensFirst() {
    HopYard x = new HopYard();
    for (int g = 0; g < 6; g++) {
      x.garden(5, 0, 40);
      x.gang(5, 100);
    }
    for (int g = 0; g < 6; g++) x.sends(g, 5 - g);
    x.kiln(0, 9);
    x.kiln(0, 6);
    x.kiln(0, 14);
    x.hours(1);
    due("in(0, 3): 5 of 0, 4 of 1", x.in(0, 3), 3);
    due("in(1, 3): 1 of 1, 5 of 2", x.in(1, 3), 6);
    due("in(2, 3): 5 of 3, 5 of 4, 4 of 5", x.in(2, 3), 56);
    due("about(5, 2)", x.about(5, 2), 1);
    due("count(8)", x.count(8), 1);
  }

  private static void upToRoom() {
    int[][] rows = {{29, 29, 1}, {30, 30, 0}, {31, 30, 0}, {1, 1, 29}, {200, 30, 0}};
    for (int[] row : rows) {
      HopYard x = Yards.oneGang(30, 30, 100);
      x.kiln(0, row[0]);
      x.hours(1);
      due("in(0, 0) with a room of " + row[0], x.in(0, 0), row[1]);
      due("count(8) with a room of " + row[0], x.count(8), row[2]);
    }
  }

  private static void shareFromNothing() {
    // 40 and 40 are 80: the 20 above 60 do not stay.
    HopYard x = Yards.oneGang(40, 10, 100);
    Yards.kilnRead(x, 2, 10, 100);
    x.hours(3);
    due("in(0, 1)", x.in(0, 1), 0);
    due("in(0, 0)", x.in(0, 0), 10);
    x.hours(1);
    due("in(0, 1)", x.in(0, 1), 40);
  }

  private static void nowIsOneMore() {
    HopYard x = Yards.oneGang(5000, 1, 100);
    for (int hour = 1; hour <= 30; hour++) {
      due("hours(1)", x.hours(1), hour);
      due("count(0)", x.count(0), hour);
      due("tally(0, 0)", x.tally(0, 0), hour);
    }
  }

  // ---- pockets

  private static void pockets() {
    Check.says("A POCKET is pressed of each 20 BUSHELS DRIED"); twenty();
    Check.says("What is less lies LOOSE"); loose();
    Check.says("as they come, KILN by KILN"); pressedKilnByKiln();
    Check.says("(of one KILN in the order in which it took them)"); pressedInTheOrderOfTaking();
    Check.says("numbered from 0 on (100 at most; beyond that they are pressed, and not led)"); ledOnes();
    Check.says("marked with the GARDENS (bits) of them"); marks();
    Check.says("the DAY"); dayOfAPocket();
  }

  /** A yard in which so many bushels of one garden were dried at once, in hour 9. */
  private static HopYard driedAtOnce(int bushels) {
    HopYard x = new HopYard();
    x.garden(bushels, 0, 40);
    for (int i = 0; i < 6; i++) {
      x.gang(30, 100);
      x.sends(i, 0);
    }
    x.hours(7);
    Yards.kilnRead(x, 2, 200, 100);
    x.hours(3);
    return x;
  }

  private static void twenty() {
    int[][] rows = {{1, 0}, {19, 0}, {20, 1}, {21, 1}, {39, 1}, {40, 2}, {41, 2}, {199, 9}, {200, 10}};
    for (int[] row : rows) {
      HopYard x = driedAtOnce(row[0]);
      due("about(0, 5)", x.about(0, 5), row[0]);
      due("count(4) of " + row[0], x.count(4), row[1]);
      due("pocket(.., 0) of " + row[0] + ", the last one", x.pocket(row[1] - 1, 0), row[1] == 0 ? BAD : 1);
      due("pocket(.., 0) of " + row[0] + ", one more", x.pocket(row[1], 0), BAD);
    }
  }

  private static void loose() {
    int[][] rows = {{1, 1}, {19, 19}, {20, 0}, {21, 1}, {39, 19}, {40, 0}, {200, 0}};
    for (int[] row : rows) due("count(5) of " + row[0], driedAtOnce(row[0]).count(5), row[1]);
    due("count(5), nothing dried", new HopYard().count(5), 0);
    // Bushel by bushel: each goes to those that lie there, up to the twentieth.
    HopYard x = Yards.oneGang(41, 1, 100);
    Yards.kilnRead(x, 2, 1, 100);
    x.waits(24);
    Yards.to(x, 1);
    for (int dried = 1; dried <= 23; dried++) {
      x.hours(2);
      due("about(0, 5)", x.about(0, 5), dried);
      due("count(5), bushel " + dried, x.count(5), dried % 20);
      due("count(4), bushel " + dried, x.count(4), dried / 20);
    }
  }

  private static void pressedKilnByKiln() {
    HopYard x = Yards.pickedAtOnce(15, 15);
    x.garden(10, 0, 40);
    x.gang(10, 100);
    Yards.kilnRead(x, 2, 15, 100);
    Yards.kilnRead(x, 2, 15, 100);
    x.hours(2);
    x.sends(2, 2);
    x.hours(1);
    due("count(4)", x.count(4), 1);
    due("count(5)", x.count(5), 10);
    due("pocket(0, 0): 15 of 0, 5 of 1", x.pocket(0, 0), 3);
    x.hours(2);
    due("count(4)", x.count(4), 2);
    due("pocket(1, 0): 10 of 1, of kiln 1, and 10 of 2", x.pocket(1, 0), 6);
  }

  private static void pressedInTheOrderOfTaking() {
    HopYard x = new HopYard();
    x.garden(15, 0, 40);
    x.garden(15, 0, 40);
    x.garden(10, 0, 40);
    x.gang(15, 100);
    x.sends(0, 1);
    x.hours(1);
    x.sends(0, 0);
    x.hours(1);
    Yards.kilnRead(x, 2, 30, 100);
    x.hours(1);
    due("in(0, 0)", x.in(0, 0), 30);
    x.hours(1);
    x.sends(0, 2);
    x.hours(1);
    due("pocket(0, 0): 15 of 1, 5 of 0", x.pocket(0, 0), 3);
    due("count(5): 10 of 0", x.count(5), 10);
    x.hours(2);
    due("pocket(1, 0): 10 of 0, 10 of 2", x.pocket(1, 0), 5);
  }

  private static void ledOnes() {
    HopYard x = new HopYard();
    x.garden(2000, 0, 40);
    x.garden(40, 0, 40);
    for (int i = 0; i < 6; i++) {
      x.gang(30, 100);
      x.sends(i, 0);
    }
    for (int k = 0; k < 4; k++) Yards.kilnRead(x, 2, 200, 100);
    for (int day = 1; day < 20; day++) x.act(day, 10);
    x.hours(24);
    due("count(4): exactly a hundred", x.count(4), 100);
    due("count(5)", x.count(5), 0);
    due("pocket(99, 0)", x.pocket(99, 0), 1);
    due("pocket(100, 0)", x.pocket(100, 0), BAD);
    int charged = x.count(6);
    int mark = x.pocket(99, 0), day = x.pocket(99, 1);
    x.sends(0, 1);
    x.hours(5);
    due("count(4): beyond that they are pressed", x.count(4), 102);
    for (int what = 0; what < 3; what++) due("pocket(100, " + what + "): and not led", x.pocket(100, what), BAD);
    due("pocket(101, 0)", x.pocket(101, 0), BAD);
    due("pocket(99, 0), as it was", x.pocket(99, 0), mark);
    due("pocket(99, 1), as it was", x.pocket(99, 1), day);
    due("pocket(0, 0), as it was", x.pocket(0, 0), 1);
    due("count(6), as it was", x.count(6), charged);
    due("count(5)", x.count(5), 0);
  }

  private static void marks() {
    for (int g = 0; g < 6; g++) {
      HopYard x = new HopYard();
      for (int i = 0; i < 6; i++) x.garden(20, 0, 40);
      x.gang(20, 100);
      x.sends(0, g);
      Yards.kilnRead(x, 2, 20, 100);
      x.hours(3);
      due("pocket(0, 0) of garden " + g, x.pocket(0, 0), 1 << g);
    }
    HopYard all = Yards.pickedAtOnce(4, 4, 3, 3, 3, 3);
    Yards.kilnRead(all, 2, 20, 100);
    all.hours(3);
    due("pocket(0, 0) of all gardens", all.pocket(0, 0), 63);
    // The twentieth bushel is of the first pocket, the next one of the second.
    HopYard edge = Yards.pickedAtOnce(19, 1, 20);
    Yards.kilnRead(edge, 2, 40, 100);
    edge.hours(3);
    due("pocket(0, 0): the twentieth", edge.pocket(0, 0), 3);
    due("pocket(1, 0): the twenty-first on", edge.pocket(1, 0), 4);
    HopYard over = Yards.pickedAtOnce(19, 2, 19);
    Yards.kilnRead(over, 2, 40, 100);
    over.hours(3);
    due("pocket(0, 0)", over.pocket(0, 0), 3);
    due("pocket(1, 0): one of garden 1 is over", over.pocket(1, 0), 6);
  }

  private static void dayOfAPocket() {
    // Picked in hour 9 and taken, done two hours later: hour 11; with one more hour: hour 12.
    for (int first : new int[] {9, 10}) {
      HopYard x = Yards.oneGang(20, 20, 100);
      x.sends(0, NONE);
      Yards.kilnRead(x, 2, 20, 100);
      x.hours(first);
      x.sends(0, 0);
      x.hours(2);
      due("count(4)", x.count(4), 0);
      x.hours(1);
      due("count(4)", x.count(4), 1);
      due("pocket(0, 1): done in hour " + (first + 2), x.pocket(0, 1), first - 9);
    }
    // What lay loose on day 0 is marked by the day on which the pocket is full.
    HopYard x = Yards.oneGang(20, 19, 100);
    Yards.kilnRead(x, 2, 19, 100);
    x.hours(3);
    due("count(5)", x.count(5), 19);
    x.read(0, 0);
    x.hours(9);
    x.read(0, 100);
    x.hours(2);
    due("count(4)", x.count(4), 1);
    due("pocket(0, 1): full on day 1", x.pocket(0, 1), 1);
  }

  // ---- tallies

  private static void tallies() {
    Check.says("BUSHELS times 100 by MEASURE, rounded down"); told();
    Check.says("PAY of it: that times THE PRICE of that HOUR"); pay();
  }

  private static void told() {
    // rate, measure, told in an hour
    int[][] rows = {{1, 80, 1}, {1, 100, 1}, {1, 101, 0}, {1, 120, 0}, {4, 80, 5}, {3, 80, 3}, {29, 80, 36}, {30, 80, 37},
        {6, 120, 5}, {5, 120, 4}, {7, 120, 5}, {30, 120, 25}, {30, 99, 30}, {30, 101, 29}, {30, 100, 30}};
    for (int[] row : rows) {
      HopYard x = Yards.oneGang(5000, row[0], row[1]);
      x.hours(1);
      due("tally(0, 1), a rate of " + row[0] + " by " + row[1], x.tally(0, 1), row[2]);
      x.hours(9);
      due("tally(0, 1), each hour by itself, " + row[0] + " by " + row[1], x.tally(0, 1), 10 * row[2]);
      due("tally(0, 0)", x.tally(0, 0), 10 * row[0]);
    }
    // By what it picked, not by its rate.
    HopYard x = Yards.oneGang(31, 30, 80);
    x.hours(2);
    due("tally(0, 1): 37 and 1", x.tally(0, 1), 38);
    x.hours(1);
    due("tally(0, 1): nothing is left", x.tally(0, 1), 38);
  }

  private static void pay() {
    HopYard x = Yards.oneGang(5000, 30, 80);
    x.gang(1, 120);
    x.sends(1, 0);
    x.price(1, 50);
    x.price(2, 1);
    int[] due = {2 * 37, 52 * 37, 53 * 37, 54 * 37};
    for (int hour = 0; hour < 4; hour++) {
      x.hours(1);
      due("tally(0, 2) in hour " + hour, x.tally(0, 2), due[hour]);
      due("tally(1, 2): told 0", x.tally(1, 2), 0);
      due("count(9)", x.count(9), due[hour]);
    }
    x.price(4, 50);
    due("tally(0, 2): what was paid stays", x.tally(0, 2), due[3]);
    // All hours by one call are paid as hour by hour.
    HopYard y = Yards.oneGang(5000, 30, 80);
    y.price(1, 50);
    y.price(2, 1);
    y.hours(4);
    due("tally(0, 2) of hours(4)", y.tally(0, 2), due[3]);
  }

  // ---- prices

  private static void prices() {
    Check.says("THE PRICE (1 .. 50; 2 at first)"); priceRange();
    Check.says("is told for an HOUR from NOW on"); priceFromNow();
    Check.says("in force from it till another one's"); priceTillAnother();
    Check.says("(of one HOUR the later told)"); laterTold();
  }

  private static void priceRange() {
    HopYard x = new HopYard();
    for (int hour : new int[] {0, 1, 240, 479, 480}) due("priced(" + hour + "), at first", x.priced(hour), 2);
    due("price(0, 0)", x.price(0, 0), BAD);
    due("price(0, -1)", x.price(0, -1), BAD);
    due("price(0, 51)", x.price(0, 51), BAD);
    due("priced(0), as it was", x.priced(0), 2);
    due("price(0, 1)", x.price(0, 1), 1);
    due("priced(0)", x.priced(0), 1);
    due("price(0, 50)", x.price(0, 50), 1);
    due("priced(0)", x.priced(0), 50);
  }

  private static void priceFromNow() {
    HopYard x = Yards.oneGang(5000, 1, 100);
    due("price(-1, 5) at 0", x.price(-1, 5), BAD);
    due("price(0, 5) at 0", x.price(0, 5), 1);
    x.hours(1);
    due("tally(0, 2): from hour 0 on", x.tally(0, 2), 5);
    due("price(0, 6) at 1", x.price(0, 6), BAD);
    due("price(1, 6) at 1", x.price(1, 6), 1);
    x.hours(1);
    due("tally(0, 2): from hour 1 on", x.tally(0, 2), 11);
    due("priced(0): as it was", x.priced(0), 5);
    Yards.to(x, 480);
    due("price(479, 7) at 480", x.price(479, 7), BAD);
    due("price(480, 7) at 480", x.price(480, 7), 1);
    due("price(481, 7) at 480", x.price(481, 7), BAD);
    due("priced(479)", x.priced(479), 6);
    due("priced(480)", x.priced(480), 7);
  }

  private static void priceTillAnother() {
    HopYard x = new HopYard();
    x.price(20, 20);
    x.price(10, 10);
    x.price(30, 30);
    int[][] rows = {{0, 2}, {9, 2}, {10, 10}, {11, 10}, {19, 10}, {20, 20}, {29, 20}, {30, 30}, {480, 30}};
    for (int[] row : rows) due("priced(" + row[0] + ")", x.priced(row[0]), row[1]);
    // One that is told later for an earlier hour does not go over a later hour's.
    x.price(15, 15);
    due("priced(14)", x.priced(14), 10);
    due("priced(15)", x.priced(15), 15);
    due("priced(19)", x.priced(19), 15);
    due("priced(20)", x.priced(20), 20);
  }

  private static void laterTold() {
    HopYard x = new HopYard();
    x.price(5, 9);
    x.price(5, 3);
    due("priced(5): the lesser, told later", x.priced(5), 3);
    x.price(5, 7);
    due("priced(5): the greater, told later", x.priced(5), 7);
    x.price(6, 1);
    due("priced(5)", x.priced(5), 7);
    due("priced(6)", x.priced(6), 1);
    x.price(5, 8);
    due("priced(5)", x.priced(5), 8);
    due("priced(6)", x.priced(6), 1);
    due("priced(4)", x.priced(4), 2);
  }

  // ---- acts

  private static void acts() {
    Check.says("a DUTY (0 .. 100 a POCKET; 0 at first)"); dutyRange();
    Check.says("from a DAY on that has not begun"); notBegun();
    Check.says("likewise"); dutyLikewise();
    Check.says("CHARGED: of each POCKET that is led the DUTY of its DAY"); charged();
  }

  private static void dutyRange() {
    HopYard x = new HopYard();
    for (int day : new int[] {0, 1, 39, 40}) due("duty(" + day + "), at first", x.duty(day), 0);
    due("act(1, -1)", x.act(1, -1), BAD);
    due("act(1, 101)", x.act(1, 101), BAD);
    due("duty(1), as it was", x.duty(1), 0);
    due("act(1, 100)", x.act(1, 100), 1);
    due("duty(1)", x.duty(1), 100);
    due("act(1, 0)", x.act(1, 0), 1);
    due("duty(1)", x.duty(1), 0);
  }

  private static void notBegun() {
    HopYard x = new HopYard();
    due("act(0, 5) at 0", x.act(0, 5), STATE);
    for (int day : new int[] {1, 2, 39, 40}) {
      Yards.to(x, 12 * day - 1);
      due("act(" + (day - 1) + ", 5) in its last hour", x.act(day - 1, 5), STATE);
      due("act(" + day + ", 5) at 12 * " + day + " - 1", x.act(day, day), 1);
      x.hours(1);
      due("act(" + day + ", 5) at 12 * " + day, x.act(day, 5), STATE);
      due("duty(" + day + ")", x.duty(day), day);
    }
    due("count(0)", x.count(0), 480);
    due("act(41, 5) at 480", x.act(41, 5), BAD);
  }

  private static void dutyLikewise() {
    HopYard x = new HopYard();
    x.act(20, 20);
    x.act(10, 10);
    x.act(10, 9);
    x.act(30, 0);
    x.act(40, 100);
    int[][] rows = {{0, 0}, {9, 0}, {10, 9}, {19, 9}, {20, 20}, {29, 20}, {30, 0}, {39, 0}, {40, 100}};
    for (int[] row : rows) due("duty(" + row[0] + ")", x.duty(row[0]), row[1]);
    x.act(20, 21);
    due("duty(20): the later told", x.duty(20), 21);
    x.act(15, 15);
    due("duty(19)", x.duty(19), 15);
    due("duty(20): a later day's", x.duty(20), 21);
  }

  private static void charged() {
    HopYard x = new HopYard();
    x.garden(100, 0, 40);
    x.gang(20, 100);
    Yards.kilnRead(x, 2, 20, 100);
    x.act(1, 7);
    x.act(2, 100);
    x.act(3, 0);
    int[] charged = {0, 7, 107, 107};
    for (int day = 0; day < 4; day++) {
      x.sends(0, 0);
      x.hours(1);
      x.sends(0, NONE);
      x.hours(11);
      due("count(4) on day " + day, x.count(4), day + 1);
      due("count(6) on day " + day, x.count(6), charged[day]);
      due("pocket(" + day + ", 1)", x.pocket(day, 1), day);
    }
    int[] duties = {0, 7, 100, 0};
    for (int p = 0; p < 4; p++) due("pocket(" + p + ", 2)", x.pocket(p, 2), duties[p]);
    x.act(5, 50);
    due("count(6): an act for a day to come", x.count(6), 107);
    // The first pocket and the hundredth are charged too, the one beyond is not.
    HopYard y = new HopYard();
    y.garden(2020, 1, 40);
    for (int i = 0; i < 6; i++) {
      y.gang(30, 100);
      y.sends(i, 0);
    }
    Yards.kilnRead(y, 2, 20, 100);
    y.act(1, 3);
    y.hours(15);
    due("count(4)", y.count(4), 1);
    due("count(6): the first", y.count(6), 3);
    for (int k = 0; k < 3; k++) Yards.kilnRead(y, 2, 200, 100);
    Yards.to(y, 60);
    due("count(4)", y.count(4), 101);
    due("count(6): a hundred", y.count(6), 300);
  }

  // ---- bound

  private static void bound() {
    Check.says("the sum over KILNS"); boundOfAll();
    Check.says("(60 by DRYING, rounded up; 0 if DRYING is 0)"); hoursThatItTakes();
    Check.says("rounded down each"); roundedDownEach();
  }

  private static void boundOfAll() {
    HopYard x = new HopYard();
    due("bound(), no kilns", x.bound(), 0);
    for (int k = 0; k < 4; k++) {
      Yards.kilnRead(x, 2, 200, 100);
      due("bound()", x.bound(), 100 * (k + 1));
    }
    x.garden(5000, 0, 40);
    x.gang(30, 100);
    x.sends(0, 0);
    x.hours(2);
    due("bound(), kilns that are not EMPTY", x.bound(), 400);
  }

  private static void hoursThatItTakes() {
    // reading of a plain kiln with room 200, bound
    int[][] rows = {{0, 0}, {4, 0}, {5, 200 / 60}, {10, 200 / 30}, {35, 200 / 9}, {50, 200 / 6}, {55, 200 / 6}, {60, 200 / 5},
        {65, 200 / 5}, {70, 200 / 5}, {75, 200 / 4}, {95, 200 / 4}, {99, 200 / 4}, {100, 200 / 3}};
    HopYard x = new HopYard();
    x.kiln(0, 200);
    for (int[] row : rows) {
      x.read(0, row[0]);
      due("bound() with a reading of " + row[0], x.bound(), row[1]);
    }
    HopYard y = new HopYard();
    y.kiln(2, 200);
    y.read(0, 4);
    due("bound() of a double kiln that does not dry", y.bound(), 0);
    y.read(0, 84);
    due("bound(): 60 by 38 is 2", y.bound(), 100);
    y.read(0, 39);
    due("bound(): 60 by 14 is 5", y.bound(), 40);
    y.read(0, 40);
    due("bound(): 60 by 22 is 3", y.bound(), 66);
    // With a drying of 1 it takes 60 hours: not 59, not 61.
    int[][] rooms = {{59, 0}, {60, 1}, {119, 1}, {120, 2}};
    for (int[] room : rooms) {
      HopYard z = new HopYard();
      Yards.kilnRead(z, 0, room[0], 5);
      due("bound(): " + room[0] + " by 60", z.bound(), room[1]);
    }
  }

  private static void roundedDownEach() {
    HopYard x = new HopYard();
    Yards.kilnRead(x, 2, 3, 100);
    due("bound(): 3 by 2", x.bound(), 1);
    Yards.kilnRead(x, 2, 3, 100);
    due("bound(): 3 by 2, twice", x.bound(), 2);
    Yards.kilnRead(x, 2, 1, 100);
    due("bound(): 1 by 2 more", x.bound(), 2);
    Yards.kilnRead(x, 2, 2, 100);
    due("bound(): 2 by 2 more", x.bound(), 3);
  }

  // ---- most

  private static void most() {
    Check.says("of all ways to have each GANG at some GARDEN (or none) on a DAY"); mostOfNothing();
    Check.says("(a GARDEN that is RIPE on that DAY"); mostOfRipeOnes();
    Check.says("GANGS of one GARDEN share it: RATES together, 12 HOURS, what is left at most)"); mostOfOneGarden();
    Check.says("that by which most is picked in that whole DAY, by what is left now"); byWhatIsLeft();
    Check.says("the sum of 7^GANG times (GARDEN and 1; none: 0)"); numbersOfWays();
    Check.says("the least such one"); leastNumber();
  }

  private static void dueMost(String what, HopYard x, int day, int bushels, int number) {
    due("most(" + day + ", 0): " + what, x.most(day, 0), bushels);
    due("most(" + day + ", 1): " + what, x.most(day, 1), number);
  }

  private static void mostOfNothing() {
    HopYard x = new HopYard();
    dueMost("no garden, no gang", x, 0, 0, 0);
    x.gang(30, 100);
    dueMost("no garden", x, 0, 0, 0);
    HopYard y = new HopYard();
    y.garden(5000, 0, 40);
    dueMost("no gang", y, 0, 0, 0);
    y.gang(30, 100);
    dueMost("one of each", y, 0, 360, 1);
    y.sends(0, NONE);
    dueMost("where a gang is does not count", y, 40, 360, 1);
  }

  private static void mostOfRipeOnes() {
    HopYard x = new HopYard();
    x.garden(100, 1, 2);
    x.garden(50, 2, 3);
    x.gang(30, 100);
    int[][] rows = {{0, 0, 0}, {1, 100, 1}, {2, 100, 1}, {3, 50, 2}, {4, 0, 0}, {40, 0, 0}};
    for (int[] row : rows) dueMost("ripe on 1, 2 and on 2, 3", x, row[0], row[1], row[2]);
    HopYard last = new HopYard();
    last.garden(7, 40, 40);
    last.gang(30, 100);
    dueMost("ripe on 40 alone", last, 39, 0, 0);
    dueMost("ripe on 40 alone", last, 40, 7, 1);
  }

  private static void mostOfOneGarden() {
    // bushels, rates together 7 (gangs of 3 and 4): 84 in twelve hours
    int[][] rows = {{1, 1, 1}, {35, 35, 1}, {36, 36, 1}, {37, 37, 7}, {48, 48, 7}, {49, 49, 8}, {83, 83, 8}, {84, 84, 8}, {85, 84, 8}, {5000, 84, 8}};
    for (int[] row : rows) {
      HopYard x = new HopYard();
      x.garden(row[0], 0, 40);
      x.gang(3, 100);
      x.gang(4, 100);
      dueMost(row[0] + " bushels, rates of 3 and 4", x, 0, row[1], row[2]);
    }
    HopYard most = new HopYard();
    most.garden(5000, 0, 40);
    for (int i = 0; i < 6; i++) most.gang(30, 100);
    dueMost("six gangs of 30 at one garden", most, 0, 2160, 19608);
  }

  private static void byWhatIsLeft() {
    HopYard x = new HopYard();
    x.garden(20, 0, 40);
    x.garden(15, 0, 40);
    x.gang(10, 100);
    x.sends(0, 0);
    dueMost("20 and 15", x, 0, 20, 1);
    x.hours(1);
    dueMost("10 and 15", x, 0, 15, 2);
    dueMost("10 and 15, of another day", x, 7, 15, 2);
    x.hours(1);
    dueMost("0 and 15", x, 0, 15, 2);
    x.sends(0, 1);
    x.hours(2);
    dueMost("nothing left", x, 0, 0, 0);
    // The whole day, also in its last hour and behind it.
    HopYard y = Yards.oneGang(5000, 10, 100);
    y.hours(11);
    dueMost("in the last hour of day 0", y, 0, 120, 1);
    y.hours(1);
    dueMost("behind day 0", y, 0, 120, 1);
  }

  private static void numbersOfWays() {
    int power = 1;
    for (int i = 0; i < 6; i++, power *= 7) {
      // Gang i is the only one that can pick all of the last garden by itself.
      HopYard x = new HopYard();
      for (int g = 0; g < 5; g++) x.garden(1, 40, 40);
      x.garden(24, 0, 0);
      for (int j = 0; j < 6; j++) x.gang(j == i ? 2 : 1, 100);
      int best = i == 0 ? 6 : i == 1 ? 6 * 7 : 6 * (1 + 7);
      dueMost("one gang of 2, number " + i + ", at garden 5", x, 0, 24, best);
      HopYard y = new HopYard();
      y.garden(5000, 0, 0);
      for (int j = 0; j <= i; j++) y.gang(1, 100);
      dueMost(i + 1 + " gangs", y, 0, 12 * (i + 1), (7 * power - 1) / 6);
    }
    HopYard z = new HopYard();
    for (int g = 0; g < 5; g++) z.garden(5000, 1, 40);
    z.garden(5000, 0, 40);
    for (int j = 0; j < 6; j++) z.gang(1, 100);
    dueMost("all at garden 5, the greatest number", z, 0, 72, 117648);
    dueMost("all at garden 0", z, 1, 72, 19608);
  }

  private static void leastNumber() {
    HopYard same = new HopYard();
    same.garden(500, 0, 40);
    same.garden(500, 0, 40);
    same.gang(5, 100);
    dueMost("either garden", same, 0, 60, 1);
    HopYard one = new HopYard();
    one.garden(60, 0, 40);
    one.gang(5, 100);
    one.gang(5, 100);
    dueMost("either gang", one, 0, 60, 1);
    one.garden(60, 0, 40);
    dueMost("one at each: 2 and 7, not 1 and 14", one, 0, 120, 9);
    HopYard none = new HopYard();
    none.garden(24, 0, 40);
    none.gang(1, 100);
    none.gang(2, 100);
    none.gang(1, 100);
    dueMost("gang 1 alone, not 0 and 2", none, 0, 24, 7);
    HopYard both = new HopYard();
    both.garden(24, 0, 40);
    both.gang(1, 100);
    both.gang(1, 100);
    both.gang(2, 100);
    dueMost("0 and 1, not 2 alone", both, 0, 24, 8);
  }

  // ---- refused

  private static void refused() {
    Check.says("Refused, and nothing changes, the first of these: BAD"); badFirst();
    Check.says("STATE (as told), FULL"); stateAheadOfFull();
  }

  private static void badFirst() {
    HopYard x = new HopYard();
    for (int i = 0; i < 6; i++) x.garden(1, 0, 0);
    for (int i = 0; i < 6; i++) x.gang(1, 100);
    for (int i = 0; i < 4; i++) x.kiln(0, 1);
    for (int i = 0; i < 20; i++) x.price(480, 1);
    for (int i = 0; i < 20; i++) x.act(40, 1);
    due("garden(0, 0, 0), BAD ahead of FULL", x.garden(0, 0, 0), BAD);
    due("garden(5001, 0, 0), BAD ahead of FULL", x.garden(5001, 0, 0), BAD);
    due("garden(1, 1, 0), BAD ahead of FULL", x.garden(1, 1, 0), BAD);
    due("garden(1, -1, 0), BAD ahead of FULL", x.garden(1, -1, 0), BAD);
    due("garden(1, 0, 41), BAD ahead of FULL", x.garden(1, 0, 41), BAD);
    due("gang(31, 100), BAD ahead of FULL", x.gang(31, 100), BAD);
    due("gang(1, 79), BAD ahead of FULL", x.gang(1, 79), BAD);
    due("kiln(3, 1), BAD ahead of FULL", x.kiln(3, 1), BAD);
    due("kiln(0, 201), BAD ahead of FULL", x.kiln(0, 201), BAD);
    due("price(481, 1), BAD ahead of FULL", x.price(481, 1), BAD);
    due("price(-1, 1), BAD ahead of FULL", x.price(-1, 1), BAD);
    due("price(480, 0), BAD ahead of FULL", x.price(480, 0), BAD);
    due("act(41, 1), BAD ahead of FULL", x.act(41, 1), BAD);
    due("act(40, 101), BAD ahead of FULL", x.act(40, 101), BAD);
    due("act(0, 101), BAD ahead of STATE", x.act(0, 101), BAD);
    due("act(0, -1), BAD ahead of STATE", x.act(0, -1), BAD);
    Yards.to(x, 480);
    due("hours(25), BAD ahead of STATE", x.hours(25), BAD);
    due("hours(0), BAD ahead of STATE", x.hours(0), BAD);
    due("hours(-1), BAD ahead of STATE", x.hours(-1), BAD);
    due("price(479, 1), BAD ahead of FULL", x.price(479, 1), BAD);
  }

  private static void stateAheadOfFull() {
    HopYard x = new HopYard();
    for (int i = 0; i < 19; i++) due("act(40, 1)", x.act(40, 1), 1);
    due("act(0, 1), 19 told", x.act(0, 1), STATE);
    due("act(40, 1), the twentieth", x.act(40, 1), 1);
    due("act(0, 1), STATE ahead of FULL", x.act(0, 1), STATE);
    due("act(1, 1), FULL", x.act(1, 1), FULL);
    x.hours(12);
    due("act(1, 1), begun: STATE ahead of FULL", x.act(1, 1), STATE);
    due("act(2, 1), FULL", x.act(2, 1), FULL);
  }

  private static void lastCall() {
    HopYard x = new HopYard();
    x.kiln(2, 200);
    for (int i = 1; i < 511; i++) due("drying(0, 100), call " + (i + 1), x.drying(0, 100), 40);
    due("trace(), call 512", x.trace(), 510 * 111);
  }
}
