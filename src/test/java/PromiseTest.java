/** One method for each promise of the document: ordinary inputs, edges, wrong inputs. */
public final class PromiseTest {
  private static int wrong = 0;
  private static int promise = 0;

  private static void due(String call, long got, long want) {
    if (got == want) return;
    wrong++;
    System.out.println("promise " + promise + ": " + call + " answered " + got + ", due is " + want);
  }

  public static void main(String[] args) {
    promise = 1; newObject();
    promise = 2; garden();
    promise = 3; gang();
    promise = 4; sends();
    promise = 5; kiln();
    promise = 6; read();
    promise = 7; drying();
    promise = 8; waits();
    promise = 9; hours(); hourOrder(); greenOrder(); sixGardens();
    promise = 10; about();
    promise = 11; tally();
    promise = 12; in();
    promise = 13; green();
    promise = 14; pocket(); pocketsBeyondTheLed();
    promise = 15; count();
    promise = 16; price();
    promise = 17; priced();
    promise = 18; act();
    promise = 19; duty();
    promise = 20; bound();
    promise = 21; most(); mostOfSix(); mostOfTheLastGarden();
    promise = 22; trace();
    System.out.println(wrong == 0 ? "all promises held" : wrong + " answers are not as due");
    if (wrong != 0) System.exit(1);
  }

  private static void newObject() {
    HopYard x = new HopYard();
    for (int what = 0; what <= 9; what++) due("count(" + what + ")", x.count(what), 0);
    for (int ago = 0; ago <= 23; ago++) due("green(" + ago + ")", x.green(ago), 0);
    due("about(0, 0)", x.about(0, 0), HopYard.BAD);
    due("tally(0, 0)", x.tally(0, 0), -2);
    due("in(0, 0)", x.in(0, 0), HopYard.BAD);
    due("pocket(0, 0)", x.pocket(0, 0), HopYard.BAD);
    due("bound()", x.bound(), 0);
    due("most(0, 0)", x.most(0, 0), 0);
    due("most(0, 1)", x.most(0, 1), 0);
    due("trace()", x.trace(), 0);
    due("hours(1)", x.hours(1), 1);
    HopYard other = new HopYard();
    due("count(0) of another", other.count(0), 0);
    due("BAD", HopYard.BAD, -1);
    due("STATE", HopYard.STATE, -2);
    due("FULL", HopYard.FULL, -3);
    due("NONE", HopYard.NONE, -9);
  }

  private static void garden() {
    HopYard x = new HopYard();
    int[][] bad = {{0, 0, 0}, {-1, 0, 0}, {5001, 0, 0}, {1, -1, 0}, {1, 0, -1}, {1, 0, 41}, {1, 41, 41}, {1, 41, 40},
        {1, 2, 1}, {1, HopYard.NONE, 0}, {Integer.MIN_VALUE, 0, 0}, {Integer.MAX_VALUE, 0, 0}, {1, 0, Integer.MAX_VALUE}};
    for (int[] b : bad) due("garden(" + b[0] + ", " + b[1] + ", " + b[2] + ")", x.garden(b[0], b[1], b[2]), HopYard.BAD);
    due("count(1)", x.count(1), 0);
    due("garden(1, 0, 0)", x.garden(1, 0, 0), 0);
    due("garden(5000, 40, 40)", x.garden(5000, 40, 40), 1);
    due("garden(7, 0, 40)", x.garden(7, 0, 40), 2);
    due("garden(7, 1, 2)", x.garden(7, 1, 2), 3);
    due("garden(7, 1, 2)", x.garden(7, 1, 2), 4);
    due("garden(7, 1, 2)", x.garden(7, 1, 2), 5);
    due("garden(7, 1, 2), a seventh", x.garden(7, 1, 2), HopYard.FULL);
    due("garden(0, 1, 2), a seventh", x.garden(0, 1, 2), HopYard.BAD);
    due("count(1)", x.count(1), 6);
    due("about(1, 0)", x.about(1, 0), 5000);
  }

  private static void gang() {
    HopYard x = new HopYard();
    int[][] bad = {{0, 100}, {31, 100}, {-5, 100}, {5, 79}, {5, 121}, {5, 0}, {5, -80},
        {Integer.MAX_VALUE, 100}, {5, Integer.MIN_VALUE}};
    for (int[] b : bad) due("gang(" + b[0] + ", " + b[1] + ")", x.gang(b[0], b[1]), HopYard.BAD);
    due("count(2)", x.count(2), 0);
    due("gang(1, 80)", x.gang(1, 80), 0);
    due("gang(30, 120)", x.gang(30, 120), 1);
    for (int i = 2; i < 6; i++) due("gang(5, 100)", x.gang(5, 100), i);
    due("gang(5, 100), a seventh", x.gang(5, 100), HopYard.FULL);
    due("gang(5, 121), a seventh", x.gang(5, 121), HopYard.BAD);
    due("count(2)", x.count(2), 6);
    due("tally(5, 3)", x.tally(5, 3), HopYard.NONE);
  }

  private static void sends() {
    HopYard x = new HopYard();
    x.garden(100, 0, 40);
    x.garden(100, 0, 40);
    due("sends(0, 0), no gang", x.sends(0, 0), -2);
    x.gang(5, 100);
    due("sends(0, 0)", x.sends(0, 0), HopYard.NONE);
    due("sends(0, 1)", x.sends(0, 1), 0);
    due("sends(0, 2)", x.sends(0, 2), -2);
    due("sends(0, -1)", x.sends(0, -1), -2);
    due("sends(-1, 0)", x.sends(-1, 0), -2);
    due("sends(1, 0)", x.sends(1, 0), -2);
    due("sends(1, NONE)", x.sends(1, HopYard.NONE), -2);
    due("sends(NONE, NONE)", x.sends(HopYard.NONE, HopYard.NONE), -2);
    due("tally(0, 3)", x.tally(0, 3), 1);
    due("sends(0, 1) again", x.sends(0, 1), 1);
    x.hours(1);
    due("sends(0, NONE)", x.sends(0, HopYard.NONE), 1);
    due("sends(0, NONE) again", x.sends(0, HopYard.NONE), HopYard.NONE);
    x.hours(1);
    due("tally(0, 0)", x.tally(0, 0), 5);
    due("about(1, 1)", x.about(1, 1), 5);
    due("about(0, 1)", x.about(0, 1), 0);
  }

  private static void kiln() {
    HopYard x = new HopYard();
    int[][] bad = {{-1, 5}, {3, 5}, {0, 0}, {0, 201}, {0, -1}, {Integer.MAX_VALUE, 5}, {2, Integer.MIN_VALUE}};
    for (int[] b : bad) due("kiln(" + b[0] + ", " + b[1] + ")", x.kiln(b[0], b[1]), HopYard.BAD);
    due("count(3)", x.count(3), 0);
    due("kiln(0, 1)", x.kiln(0, 1), 0);
    due("kiln(1, 200)", x.kiln(1, 200), 1);
    due("kiln(2, 7)", x.kiln(2, 7), 2);
    due("kiln(0, 7)", x.kiln(0, 7), 3);
    due("kiln(0, 7), a fifth", x.kiln(0, 7), HopYard.FULL);
    due("kiln(3, 7), a fifth", x.kiln(3, 7), HopYard.BAD);
    due("count(3)", x.count(3), 4);
    due("in(3, 0)", x.in(3, 0), 0);
    due("in(3, 1)", x.in(3, 1), 0);
    due("in(3, 2)", x.in(3, 2), 50);
    due("in(3, 3)", x.in(3, 3), 0);
  }

  private static void read() {
    HopYard x = new HopYard();
    due("read(0, 5), no kiln", x.read(0, 5), HopYard.BAD);
    due("read(0, NONE), no kiln", x.read(0, HopYard.NONE), HopYard.BAD);
    x.kiln(0, 10);
    x.kiln(1, 10);
    due("read(0, 0)", x.read(0, 0), 50);
    due("read(0, NONE)", x.read(0, HopYard.NONE), 0);
    due("read(0, 100)", x.read(0, 100), 0);
    due("read(0, -1)", x.read(0, -1), HopYard.BAD);
    due("read(0, 101)", x.read(0, 101), HopYard.BAD);
    due("read(0, -8)", x.read(0, -8), HopYard.BAD);
    due("read(-1, 5)", x.read(-1, 5), HopYard.BAD);
    due("read(2, 5)", x.read(2, 5), HopYard.BAD);
    due("read(0, NONE)", x.read(0, HopYard.NONE), 100);
    due("in(0, 2)", x.in(0, 2), 100);
    due("in(1, 2)", x.in(1, 2), 50);
  }

  private static void drying() {
    HopYard x = new HopYard();
    x.kiln(0, 10);
    x.kiln(1, 10);
    x.kiln(2, 10);
    int[][] rows = {{0, 0, 0, 0}, {4, 0, 0, 0}, {5, 1, 1, 2}, {39, 7, 7, 14}, {40, 8, 11, 22}, {44, 8, 11, 22},
        {50, 10, 13, 26}, {84, 16, 19, 38}, {85, 17, 20, 40}, {90, 18, 21, 40}, {99, 19, 22, 40}, {100, 20, 23, 40}};
    for (int[] row : rows) {
      for (int k = 0; k < 3; k++) due("drying(" + k + ", " + row[0] + ")", x.drying(k, row[0]), row[k + 1]);
    }
    due("drying(0, -1)", x.drying(0, -1), HopYard.BAD);
    due("drying(0, 101)", x.drying(0, 101), HopYard.BAD);
    due("drying(0, NONE)", x.drying(0, HopYard.NONE), HopYard.BAD);
    due("drying(-1, 50)", x.drying(-1, 50), HopYard.BAD);
    due("drying(3, 50)", x.drying(3, 50), HopYard.BAD);
    due("in(0, 2), as it was", x.in(0, 2), 50);
  }

  private static void waits() {
    HopYard x = new HopYard();
    due("waits(0)", x.waits(0), HopYard.BAD);
    due("waits(25)", x.waits(25), HopYard.BAD);
    due("waits(NONE)", x.waits(HopYard.NONE), HopYard.BAD);
    due("waits(24)", x.waits(24), 10);
    due("waits(1)", x.waits(1), 24);
    due("waits(10)", x.waits(10), 1);
    x.garden(100, 0, 0);
    x.gang(4, 100);
    x.sends(0, 0);
    x.hours(10);
    due("count(7) after ten", x.count(7), 0);
    x.hours(1);
    due("count(7) after eleven", x.count(7), 4);
    due("waits(2)", x.waits(2), 10);
    due("count(7), no hour between", x.count(7), 4);
    x.hours(1);
    due("count(7), all but two hours'", x.count(7), 40);
    due("count(8)", x.count(8), 8);
  }

  private static void hours() {
    HopYard x = new HopYard();
    due("hours(0)", x.hours(0), HopYard.BAD);
    due("hours(-1)", x.hours(-1), HopYard.BAD);
    due("hours(25)", x.hours(25), HopYard.BAD);
    due("hours(MAX)", x.hours(Integer.MAX_VALUE), HopYard.BAD);
    due("hours(1)", x.hours(1), 1);
    for (int i = 1; i < 20; i++) due("hours(24)", x.hours(24), 1 + 24 * i);
    due("hours(24) to 481", x.hours(24), HopYard.STATE);
    due("hours(25) to 482", x.hours(25), HopYard.BAD);
    due("count(0)", x.count(0), 457);
    due("hours(23) to 480", x.hours(23), 480);
    due("hours(1) to 481", x.hours(1), HopYard.STATE);
    due("count(0)", x.count(0), 480);
    ripeness();
  }

  private static void ripeness() {
    HopYard x = new HopYard();
    x.garden(1000, 1, 2);
    x.gang(1, 100);
    x.sends(0, 0);
    x.hours(12);
    due("picked on day 0", x.about(0, 1), 0);
    x.hours(1);
    due("picked in hour 12", x.about(0, 1), 1);
    x.hours(23);
    due("picked up to hour 35", x.about(0, 1), 24);
    x.hours(1);
    due("picked in hour 36", x.about(0, 1), 24);
  }

  /** A kiln that is done in an hour takes what was picked in that hour; loss comes ahead of taking. */
  private static void hourOrder() {
    HopYard x = new HopYard();
    x.garden(1000, 0, 40);
    x.gang(10, 100);
    x.sends(0, 0);
    x.waits(2);
    x.kiln(0, 15);
    x.read(0, 100);
    x.hours(1);
    due("in(0, 0) in hour 0", x.in(0, 0), 10);
    due("in(0, 1): not dried in the hour of taking", x.in(0, 1), 0);
    x.hours(2);
    due("in(0, 1)", x.in(0, 1), 40);
    due("count(7): hour 1's, one hour ago", x.count(7), 0);
    due("count(8)", x.count(8), 20);
    x.hours(1);
    due("count(7): lost ahead of taking", x.count(7), 10);
    due("count(5)", x.count(5), 10);
    due("in(0, 0): up to its room", x.in(0, 0), 15);
    due("in(0, 1)", x.in(0, 1), 0);
    due("green(0): the oldest went first", x.green(0), 5);
    due("green(1)", x.green(1), 0);
  }

  private static void greenOrder() {
    HopYard x = new HopYard();
    x.garden(1000, 0, 40);
    x.garden(1000, 0, 40);
    x.gang(6, 100);
    x.gang(7, 100);
    x.sends(0, 1);
    x.sends(1, 0);
    x.hours(2);
    x.kiln(0, 3);
    x.kiln(0, 15);
    x.sends(0, HopYard.NONE);
    x.sends(1, HopYard.NONE);
    x.hours(1);
    due("in(0, 3): the lesser garden first", x.in(0, 3), 1);
    due("in(0, 0)", x.in(0, 0), 3);
    due("in(1, 3): then the other one, then the next hour", x.in(1, 3), 3);
    due("in(1, 0)", x.in(1, 0), 15);
    due("green(2)", x.green(2), 0);
    due("green(1)", x.green(1), 8);
    due("about(0, 3)", x.about(0, 3), 12);
    due("about(1, 3)", x.about(1, 3), 6);
    due("about(0, 2)", x.about(0, 2), 2);
    due("about(1, 2)", x.about(1, 2), 6);
  }

  /** A kiln that is full of single bushels, of every garden one. */
  private static void sixGardens() {
    HopYard x = new HopYard();
    for (int g = 0; g < 6; g++) {
      x.garden(5, 0, 40);
      x.gang(1, 100);
    }
    for (int g = 0; g < 6; g++) x.sends(g, 5 - g);
    x.hours(1);
    for (int g = 0; g < 6; g++) due("about(" + g + ", 2)", x.about(g, 2), 1);
    due("green(0)", x.green(0), 6);
    x.kiln(2, 6);
    x.read(0, 100);
    x.hours(1);
    due("in(0, 0)", x.in(0, 0), 6);
    due("in(0, 3)", x.in(0, 3), 63);
    for (int g = 0; g < 6; g++) due("about(" + g + ", 3)", x.about(g, 3), 1);
    due("green(1)", x.green(1), 0);
    x.hours(2);
    for (int g = 0; g < 6; g++) due("about(" + g + ", 5)", x.about(g, 5), 1);
    due("count(5)", x.count(5), 6);
    x.waits(1);
    x.hours(1);
    for (int g = 0; g < 6; g++) due("about(" + g + ", 4)", x.about(g, 4), 2);
  }

  private static void about() {
    HopYard x = new HopYard();
    x.garden(25, 0, 40);
    x.garden(9, 0, 40);
    x.gang(10, 100);
    x.gang(8, 100);
    x.sends(0, 0);
    x.sends(1, 0);
    x.kiln(0, 12);
    x.read(0, 100);
    x.waits(3);
    x.hours(1);
    int[] hour0 = {7, 18, 6, 12, 0, 0};
    for (int what = 0; what < 6; what++) due("about(0, " + what + ") at 1", x.about(0, what), hour0[what]);
    x.hours(3);
    int[] hour3 = {0, 25, 0, 7, 6, 12};
    for (int what = 0; what < 6; what++) due("about(0, " + what + ") at 4", x.about(0, what), hour3[what]);
    int[] other = {9, 0, 0, 0, 0, 0};
    for (int what = 0; what < 6; what++) due("about(1, " + what + ")", x.about(1, what), other[what]);
    due("tally(0, 0): what is left, gang by gang", x.tally(0, 0), 17);
    due("tally(1, 0)", x.tally(1, 0), 8);
    due("about(0, 6)", x.about(0, 6), HopYard.BAD);
    due("about(0, -1)", x.about(0, -1), HopYard.BAD);
    due("about(-1, 0)", x.about(-1, 0), HopYard.BAD);
    due("about(2, 0)", x.about(2, 0), HopYard.BAD);
    due("about(NONE, 0)", x.about(HopYard.NONE, 0), HopYard.BAD);
  }

  private static void tally() {
    HopYard x = new HopYard();
    x.garden(1000, 0, 40);
    x.gang(7, 80);
    x.gang(5, 120);
    x.gang(9, 100);
    x.sends(0, 0);
    x.sends(1, 0);
    x.price(1, 50);
    x.price(3, 1);
    x.hours(4);
    // Rounded in each hour: 7 * 100 / 80 is 8, 5 * 100 / 120 is 4.
    int[][] rows = {{28, 32, 8 * (2 + 50 + 50 + 1), 0}, {20, 16, 4 * (2 + 50 + 50 + 1), 0}, {0, 0, 0, HopYard.NONE}};
    for (int g = 0; g < 3; g++) {
      for (int what = 0; what < 4; what++) due("tally(" + g + ", " + what + ")", x.tally(g, what), rows[g][what]);
    }
    due("count(9)", x.count(9), 12 * 103);
    x.gang(30, 101);
    x.sends(3, 0);
    x.hours(1);
    due("tally(3, 1): 3000 by 101", x.tally(3, 1), 29);
    due("tally(3, 2)", x.tally(3, 2), 29);
    due("tally(0, 4)", x.tally(0, 4), -2);
    due("tally(0, -1)", x.tally(0, -1), -2);
    due("tally(4, 0)", x.tally(4, 0), -2);
    due("tally(-1, 0)", x.tally(-1, 0), -2);
  }

  private static void in() {
    HopYard x = new HopYard();
    x.garden(1000, 0, 40);
    x.garden(1000, 0, 40);
    x.garden(1000, 0, 0);
    x.gang(3, 100);
    x.gang(4, 100);
    x.sends(0, 0);
    x.sends(1, 2);
    x.kiln(1, 200);
    x.kiln(1, 200);
    x.hours(1);
    int[] rows = {7, 0, 50, 5};
    for (int what = 0; what < 4; what++) due("in(0, " + what + ")", x.in(0, what), rows[what]);
    int[] empty = {0, 0, 50, 0};
    for (int what = 0; what < 4; what++) due("in(1, " + what + ")", x.in(1, what), empty[what]);
    x.sends(0, HopYard.NONE);
    x.sends(1, HopYard.NONE);
    x.hours(4);
    due("in(0, 1)", x.in(0, 1), 52);
    x.read(0, 35);
    x.hours(1);
    due("in(0, 1): 59 is not done", x.in(0, 1), 59);
    due("in(0, 0)", x.in(0, 0), 7);
    x.read(0, 5);
    x.hours(1);
    due("in(0, 0): 60 is done", x.in(0, 0), 0);
    due("in(0, 1): empty", x.in(0, 1), 0);
    due("in(0, 3): empty", x.in(0, 3), 0);
    due("count(5)", x.count(5), 7);
    due("in(0, 4)", x.in(0, 4), HopYard.BAD);
    due("in(0, -1)", x.in(0, -1), HopYard.BAD);
    due("in(-1, 0)", x.in(-1, 0), HopYard.BAD);
    due("in(2, 0)", x.in(2, 0), HopYard.BAD);
  }

  private static void green() {
    HopYard x = new HopYard();
    x.garden(1000, 0, 40);
    x.garden(1000, 0, 40);
    x.gang(1, 100);
    x.gang(2, 100);
    x.sends(0, 0);
    x.sends(1, 1);
    x.waits(24);
    x.hours(1);
    due("green(0)", x.green(0), 3);
    due("green(1)", x.green(1), 0);
    x.sends(0, HopYard.NONE);
    x.hours(2);
    due("green(0)", x.green(0), 2);
    due("green(2)", x.green(2), 3);
    x.sends(1, HopYard.NONE);
    x.hours(21);
    due("green(23)", x.green(23), 3);
    due("green(22)", x.green(22), 2);
    due("green(20)", x.green(20), 0);
    x.hours(1);
    due("green(23)", x.green(23), 2);
    due("count(7)", x.count(7), 3);
    due("green(24)", x.green(24), HopYard.BAD);
    due("green(-1)", x.green(-1), HopYard.BAD);
    due("green(NONE)", x.green(HopYard.NONE), HopYard.BAD);
    due("green(MIN)", x.green(Integer.MIN_VALUE), HopYard.BAD);
  }

  private static void pocket() {
    HopYard x = new HopYard();
    x.garden(16, 0, 0);
    x.garden(30, 0, 0);
    x.garden(14, 0, 0);
    for (int g = 0; g < 3; g++) {
      x.gang(30, 100);
      x.sends(g, g);
    }
    x.kiln(0, 18);
    x.kiln(0, 42);
    x.read(0, 100);
    x.act(1, 7);
    x.act(2, 9);
    x.hours(4);
    due("count(4): 18 lie loose", x.count(4), 0);
    due("count(5)", x.count(5), 18);
    x.hours(2);
    due("count(4): kiln 1, with 28 of 1 and 14 of 2, is not done", x.count(4), 0);
    x.read(1, 0);
    x.hours(7);
    x.read(1, 100);
    x.hours(1);
    // Loose were 16 of 0 and 2 of 1; then come 28 of 1 and 14 of 2.
    due("count(4)", x.count(4), 3);
    due("count(5)", x.count(5), 0);
    int[] marks = {3, 2, 6};
    for (int p = 0; p < 3; p++) {
      due("pocket(" + p + ", 0)", x.pocket(p, 0), marks[p]);
      due("pocket(" + p + ", 1)", x.pocket(p, 1), 1);
      due("pocket(" + p + ", 2)", x.pocket(p, 2), 7);
    }
    due("pocket(3, 0)", x.pocket(3, 0), HopYard.BAD);
    due("pocket(-1, 0)", x.pocket(-1, 0), HopYard.BAD);
    due("pocket(0, 3)", x.pocket(0, 3), HopYard.BAD);
    due("pocket(0, -1)", x.pocket(0, -1), HopYard.BAD);
    due("pocket(NONE, 0)", x.pocket(HopYard.NONE, 0), HopYard.BAD);
    due("count(6)", x.count(6), 21);
    looseMarksEndWithAPocket();
  }

  /** A pocket that takes the last loose bushel leaves no mark for the next one. */
  private static void looseMarksEndWithAPocket() {
    HopYard x = new HopYard();
    x.garden(20, 0, 0);
    x.garden(21, 0, 0);
    x.garden(19, 0, 0);
    for (int g = 0; g < 3; g++) {
      x.gang(30, 100);
      x.sends(g, g);
    }
    x.kiln(2, 60);
    x.read(0, 100);
    x.hours(3);
    due("count(4)", x.count(4), 3);
    due("pocket(0, 0)", x.pocket(0, 0), 1);
    due("pocket(1, 0)", x.pocket(1, 0), 2);
    due("pocket(2, 0)", x.pocket(2, 0), 6);
    due("pocket(0, 1)", x.pocket(0, 1), 0);
  }

  private static void pocketsBeyondTheLed() {
    HopYard x = new HopYard();
    x.garden(2020, 0, 40);
    for (int g = 0; g < 6; g++) {
      x.gang(30, 100);
      x.sends(g, 0);
    }
    x.kiln(2, 200);
    x.kiln(2, 200);
    x.read(0, 100);
    x.read(1, 100);
    x.act(1, 3);
    x.hours(24);
    due("count(4)", x.count(4), 101);
    due("pocket(99, 0)", x.pocket(99, 0), 1);
    due("pocket(100, 0)", x.pocket(100, 0), HopYard.BAD);
    int onDayOne = 0;
    for (int p = 0; p < 100; p++) onDayOne += x.pocket(p, 1);
    due("count(6): of the led ones alone", x.count(6), 3 * onDayOne);
    due("pocket(99, 1)", x.pocket(99, 1), 1);
    due("pocket(99, 2)", x.pocket(99, 2), 3);
  }

  private static void count() {
    HopYard x = new HopYard();
    x.garden(1000, 0, 40);
    x.garden(1000, 0, 40);
    x.garden(1000, 0, 40);
    x.gang(30, 100);
    x.gang(15, 90);
    x.sends(0, 0);
    x.sends(1, 1);
    x.kiln(2, 50);
    x.read(0, 100);
    x.waits(2);
    x.act(1, 10);
    x.hours(12);
    // Taken in hours 0 (45), 2, 4, .. (50 each); done two hours later.
    due("count(0)", x.count(0), 12);
    due("count(1)", x.count(1), 3);
    due("count(2)", x.count(2), 2);
    due("count(3)", x.count(3), 1);
    due("count(4)", x.count(4), 12);
    due("count(5)", x.count(5), 5);
    due("count(6)", x.count(6), 0);
    due("count(7)", x.count(7), x.about(0, 4) + x.about(1, 4) + x.about(2, 4));
    due("count(8)", x.count(8), x.about(0, 2) + x.about(1, 2) + x.about(2, 2));
    due("count(7), (8) and dried and in the kiln", x.count(7) + x.count(8) + 245 + 50, 540);
    due("count(9)", x.count(9), 12 * 2 * (30 + 16));
    x.hours(1);
    due("count(4)", x.count(4), 14);
    due("count(6): two pockets of day 1", x.count(6), 20);
    due("count(-1)", x.count(-1), HopYard.BAD);
    due("count(10)", x.count(10), HopYard.BAD);
    due("count(NONE)", x.count(HopYard.NONE), HopYard.BAD);
  }

  private static void price() {
    HopYard x = new HopYard();
    x.hours(5);
    due("price(4, 3), past", x.price(4, 3), HopYard.BAD);
    due("price(5, 3), now", x.price(5, 3), 1);
    due("price(480, 50)", x.price(480, 50), 1);
    due("price(481, 3)", x.price(481, 3), HopYard.BAD);
    due("price(NONE, 3)", x.price(HopYard.NONE, 3), HopYard.BAD);
    due("price(9, 0)", x.price(9, 0), HopYard.BAD);
    due("price(9, 51)", x.price(9, 51), HopYard.BAD);
    due("price(9, 1)", x.price(9, 1), 1);
    for (int i = 3; i < 20; i++) due("price(20, " + i + ")", x.price(20, i), 1);
    due("price(30, 3), a 21st", x.price(30, 3), HopYard.FULL);
    due("price(20, 3), a 21st", x.price(20, 3), HopYard.FULL);
    due("price(4, 3), a 21st", x.price(4, 3), HopYard.BAD);
    due("priced(30)", x.priced(30), 19);
  }

  private static void priced() {
    HopYard x = new HopYard();
    due("priced(0), at first", x.priced(0), 2);
    due("priced(480), at first", x.priced(480), 2);
    x.price(10, 5);
    x.price(20, 6);
    x.price(10, 7);
    x.price(15, 8);
    x.price(480, 9);
    int[][] rows = {{0, 2}, {9, 2}, {10, 7}, {14, 7}, {15, 8}, {19, 8}, {20, 6}, {479, 6}, {480, 9}};
    for (int[] row : rows) due("priced(" + row[0] + ")", x.priced(row[0]), row[1]);
    due("priced(-1)", x.priced(-1), HopYard.BAD);
    due("priced(481)", x.priced(481), HopYard.BAD);
    x.hours(24);
    due("priced(12), past", x.priced(12), 7);
  }

  private static void act() {
    HopYard x = new HopYard();
    due("act(0, 5)", x.act(0, 5), HopYard.STATE);
    due("act(1, 5)", x.act(1, 5), 1);
    due("act(40, 100)", x.act(40, 100), 1);
    due("act(41, 5)", x.act(41, 5), HopYard.BAD);
    due("act(-1, 5)", x.act(-1, 5), HopYard.BAD);
    due("act(0, 101), bad ahead of begun", x.act(0, 101), HopYard.BAD);
    due("act(2, -1)", x.act(2, -1), HopYard.BAD);
    due("act(2, NONE)", x.act(2, HopYard.NONE), HopYard.BAD);
    due("act(2, 0)", x.act(2, 0), 1);
    x.hours(11);
    due("act(1, 6) in hour 11", x.act(1, 6), 1);
    x.hours(1);
    due("act(1, 7) in hour 12", x.act(1, 7), HopYard.STATE);
    due("duty(1)", x.duty(1), 6);
    for (int i = 4; i < 20; i++) due("act(30, " + i + ")", x.act(30, i), 1);
    due("act(31, 1), a 21st", x.act(31, 1), HopYard.FULL);
    due("act(1, 1), begun ahead of full", x.act(1, 1), HopYard.STATE);
    due("act(1, 101), bad ahead of all", x.act(1, 101), HopYard.BAD);
    due("duty(31)", x.duty(31), 19);
  }

  private static void duty() {
    HopYard x = new HopYard();
    due("duty(0), at first", x.duty(0), 0);
    due("duty(40), at first", x.duty(40), 0);
    x.act(10, 5);
    x.act(20, 6);
    x.act(10, 7);
    x.act(15, 0);
    x.act(40, 9);
    int[][] rows = {{0, 0}, {9, 0}, {10, 7}, {14, 7}, {15, 0}, {19, 0}, {20, 6}, {39, 6}, {40, 9}};
    for (int[] row : rows) due("duty(" + row[0] + ")", x.duty(row[0]), row[1]);
    due("duty(-1)", x.duty(-1), HopYard.BAD);
    due("duty(41)", x.duty(41), HopYard.BAD);
  }

  private static void bound() {
    HopYard slow = new HopYard();
    slow.kiln(0, 59);
    slow.read(0, 5);
    due("bound(): 59 by 60", slow.bound(), 0);
    slow.kiln(0, 60);
    slow.read(1, 5);
    due("bound(): 60 by 60", slow.bound(), 1);
    HopYard x = new HopYard();
    x.kiln(0, 200);
    due("bound(): 200 by 6", x.bound(), 33);
    x.read(0, 4);
    due("bound(): no drying", x.bound(), 0);
    x.read(0, 5);
    due("bound(): 200 by 60", x.bound(), 3);
    x.read(0, 35);
    due("bound(): 60 by 7 is 9", x.bound(), 22);
    x.kiln(1, 17);
    due("bound(): 17 by 5 more", x.bound(), 25);
    x.kiln(2, 17);
    due("bound(): 17 by 3 more", x.bound(), 30);
    x.read(2, 100);
    due("bound(): 17 by 2 then", x.bound(), 33);
    x.kiln(0, 5);
    due("bound(): 5 by 6 is none", x.bound(), 33);
    x.read(3, 5);
    due("bound(): 5 by 60 is none", x.bound(), 33);
    due("trace(): bound() is not drying()", x.trace(), 0);
  }

  private static void most() {
    HopYard x = new HopYard();
    x.garden(100, 0, 1);
    x.garden(60, 1, 2);
    x.gang(5, 100);
    x.gang(8, 100);
    due("most(0, 0)", x.most(0, 0), 100);
    due("most(0, 1): both at 0", x.most(0, 1), 8);
    due("most(1, 0)", x.most(1, 0), 156);
    due("most(1, 1): 0 at 1, 1 at 0", x.most(1, 1), 2 + 7);
    due("most(2, 0)", x.most(2, 0), 60);
    due("most(2, 1): 0 at 1 is enough", x.most(2, 1), 2);
    due("most(3, 0)", x.most(3, 0), 0);
    due("most(3, 1)", x.most(3, 1), 0);
    due("most(40, 0)", x.most(40, 0), 0);
    x.sends(1, 0);
    x.hours(5);
    due("most(0, 0), by what is left", x.most(0, 0), 60);
    due("most(0, 1)", x.most(0, 1), 1);
    due("most(-1, 0)", x.most(-1, 0), HopYard.BAD);
    due("most(41, 0)", x.most(41, 0), HopYard.BAD);
    due("most(0, -1)", x.most(0, -1), HopYard.BAD);
    due("most(0, 2)", x.most(0, 2), HopYard.BAD);
    due("tally(0, 3), as it was", x.tally(0, 3), HopYard.NONE);
    due("about(0, 0), as it was", x.about(0, 0), 60);
  }

  private static void mostOfSix() {
    HopYard x = new HopYard();
    for (int g = 0; g < 6; g++) x.garden(360, 0, 40);
    for (int g = 0; g < 6; g++) x.gang(30, 100);
    due("most(0, 0)", x.most(0, 0), 2160);
    // Each garden bears one gang: the least number has the greatest digits at the least gangs.
    due("most(0, 1)", x.most(0, 1), 6 + 7 * 5 + 49 * 4 + 343 * 3 + 2401 * 2 + 16807);
  }

  /** The greatest number there is: every gang at garden 5. */
  private static void mostOfTheLastGarden() {
    HopYard x = new HopYard();
    for (int g = 0; g < 5; g++) x.garden(360, 1, 1);
    x.garden(5000, 0, 40);
    for (int g = 0; g < 6; g++) x.gang(30, 100);
    due("most(0, 0)", x.most(0, 0), 2160);
    due("most(0, 1)", x.most(0, 1), 117648);
    due("most(2, 1)", x.most(2, 1), 117648);
  }

  private static void trace() {
    HopYard x = new HopYard();
    x.kiln(0, 10);
    x.kiln(1, 10);
    x.kiln(2, 10);
    x.garden(100, 0, 40);
    x.gang(30, 100);
    x.sends(0, 0);
    x.drying(0, 0);
    due("trace()", x.trace(), 1);
    x.drying(1, 0);
    due("trace()", x.trace(), 12);
    x.drying(1, 100);
    due("trace()", x.trace(), 23);
    x.drying(2, 0);
    due("trace()", x.trace(), 134);
    x.drying(2, 100);
    due("trace()", x.trace(), 245);
    x.drying(2, 101);
    x.drying(3, 0);
    due("trace(), nothing of what was refused", x.trace(), 245);
    x.hours(24);
    x.bound();
    due("trace(), of drying() alone", x.trace(), 245);
  }
}
