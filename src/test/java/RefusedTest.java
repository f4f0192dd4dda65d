import java.util.ArrayList;
import java.util.List;

/**
 * "Refused, and nothing changes": in yards of several kinds each call that is refused is made on one of two
 * twins; then both must answer every question alike, at once and after more calls and hours. So too for each
 * call that only asks. No object is called more than 512 times, so the questions go in parts, with new twins.
 */
public final class RefusedTest {
  private static final int BAD = HopYard.BAD, STATE = HopYard.STATE, FULL = HopYard.FULL, NONE = HopYard.NONE;
  private static final int[] EXTREMES = {NONE, Integer.MIN_VALUE, Integer.MAX_VALUE};
  private static final int PART = 180;

  private interface Call {
    long on(HopYard x);
  }

  private static final class Named {
    final String name;
    final Call call;
    final long due;

    Named(String name, Call call, long due) {
      this.name = name;
      this.call = call;
      this.due = due;
    }
  }

  /** A yard to be made anew as often as it is needed, and what is told of it. */
  private static final class Stage {
    final String name;
    final Call make;
    final List<Named> refused = new ArrayList<>();

    Stage(String name, Call make) {
      this.name = name;
      this.make = make;
    }

    HopYard yard() {
      HopYard x = new HopYard();
      make.on(x);
      return x;
    }

    void refuses(String name, long due, Call call) {
      refused.add(new Named(name, call, due));
    }
  }

  private static final List<Named> QUESTIONS = questions();

  public static void main(String[] args) {
    for (Stage stage : stages()) {
      addBad(stage);
      addStateAndFull(stage);
      Check.says("Refused, and nothing changes (" + stage.name + ")");
      changeNothing(stage, stage.refused, true);
      Check.says("what only asks changes nothing (" + stage.name + ")");
      changeNothing(stage, asking(), false);
    }
    Check.end();
  }

  // ---- the yards

  private static List<Stage> stages() {
    List<Stage> stages = new ArrayList<>();
    stages.add(new Stage("new", x -> 0));
    stages.add(new Stage("begun", RefusedTest::begin));
    stages.add(new Stage("full", x -> fillUp(x, 30)));
    stages.add(new Stage("at the end", x -> fillUp(x, 480)));
    return stages;
  }

  private static long begin(HopYard x) {
    x.garden(200, 0, 3);
    x.garden(90, 1, 40);
    x.gang(11, 90);
    x.gang(7, 110);
    x.sends(0, 0);
    x.sends(1, 1);
    Yards.kilnRead(x, 1, 15, 70);
    x.kiln(2, 9);
    x.waits(4);
    x.price(3, 7);
    x.price(20, 4);
    x.act(1, 8);
    x.act(3, 2);
    x.drying(1, 60);
    return x.hours(17);
  }

  private static long fillUp(HopYard x, int hour) {
    for (int g = 0; g < 6; g++) x.garden(300 + g * 400, 0, 40 - g);
    for (int i = 0; i < 6; i++) x.gang(3 + 5 * i, 80 + 8 * i);
    for (int i = 0; i < 5; i++) x.sends(i, (i * 5 + 1) % 6);
    for (int k = 0; k < 4; k++) Yards.kilnRead(x, k % 3, 20 + 9 * k, 40 + 15 * k);
    x.waits(6);
    for (int i = 0; i < 20; i++) x.price(5 * i, 1 + i);
    for (int i = 1; i <= 20; i++) x.act(i % 7 + 1, 4 * i);
    for (int k = 0; k < 4; k++) x.drying(k, 50);
    Yards.to(x, hour);
    return 1;
  }

  // ---- the refused calls

  private static int[] beside(int least, int greatest) {
    int[] all = new int[EXTREMES.length + 2];
    System.arraycopy(EXTREMES, 0, all, 2, EXTREMES.length);
    all[0] = least - 1;
    all[1] = greatest + 1;
    return all;
  }

  private static void addBad(Stage s) {
    HopYard x = s.yard();
    int now = x.count(0), lastGarden = x.count(1) - 1, lastGang = x.count(2) - 1, lastKiln = x.count(3) - 1;
    int led = Math.min(100, x.count(4));
    addBadThings(s);
    addBadOfGangs(s, lastGang, lastGarden);
    addBadOfKilns(s, lastKiln);
    for (int v : beside(1, 24)) s.refuses("waits(" + v + ")", BAD, y -> y.waits(v));
    for (int n : beside(1, 24)) s.refuses("hours(" + n + ")", BAD, y -> y.hours(n));
    for (int g : beside(0, lastGarden)) s.refuses("about(" + g + ", 0)", BAD, y -> y.about(g, 0));
    if (lastGarden >= 0) for (int what : beside(0, 5)) s.refuses("about(0, " + what + ")", BAD, y -> y.about(0, what));
    for (int ago : beside(0, 23)) s.refuses("green(" + ago + ")", BAD, y -> y.green(ago));
    for (int p : beside(0, led - 1)) s.refuses("pocket(" + p + ", 0)", BAD, y -> y.pocket(p, 0));
    if (led > 0) for (int what : beside(0, 2)) s.refuses("pocket(0, " + what + ")", BAD, y -> y.pocket(0, what));
    for (int what : beside(0, 9)) s.refuses("count(" + what + ")", BAD, y -> y.count(what));
    for (int hour : beside(now, 480)) s.refuses("price(" + hour + ", 9)", BAD, y -> y.price(hour, 9));
    for (int v : beside(1, 50)) s.refuses("price(480, " + v + ")", BAD, y -> y.price(480, v));
    for (int hour : beside(0, 480)) s.refuses("priced(" + hour + ")", BAD, y -> y.priced(hour));
    for (int day : beside(0, 40)) s.refuses("act(" + day + ", 9)", BAD, y -> y.act(day, 9));
    for (int v : beside(0, 100)) s.refuses("act(40, " + v + ")", BAD, y -> y.act(40, v));
    for (int v : beside(0, 100)) s.refuses("act(0, " + v + ")", BAD, y -> y.act(0, v));
    for (int day : beside(0, 40)) s.refuses("duty(" + day + ")", BAD, y -> y.duty(day));
    for (int day : beside(0, 40)) s.refuses("most(" + day + ", 0)", BAD, y -> y.most(day, 0));
    for (int what : beside(0, 1)) s.refuses("most(0, " + what + ")", BAD, y -> y.most(0, what));
  }

  private static void addBadThings(Stage s) {
    for (int b : beside(1, 5000)) s.refuses("garden(" + b + ", 0, 40)", BAD, y -> y.garden(b, 0, 40));
    for (int from : beside(0, 40)) s.refuses("garden(9, " + from + ", 40)", BAD, y -> y.garden(9, from, 40));
    for (int to : beside(0, 40)) s.refuses("garden(9, 0, " + to + ")", BAD, y -> y.garden(9, 0, to));
    s.refuses("garden(9, 8, 7)", BAD, y -> y.garden(9, 8, 7));
    for (int rate : beside(1, 30)) s.refuses("gang(" + rate + ", 100)", BAD, y -> y.gang(rate, 100));
    for (int measure : beside(80, 120)) s.refuses("gang(9, " + measure + ")", BAD, y -> y.gang(9, measure));
    for (int kind : beside(0, 2)) s.refuses("kiln(" + kind + ", 9)", BAD, y -> y.kiln(kind, 9));
    for (int room : beside(1, 200)) s.refuses("kiln(0, " + room + ")", BAD, y -> y.kiln(0, room));
  }

  private static void addBadOfGangs(Stage s, int lastGang, int lastGarden) {
    for (int i : beside(0, lastGang)) {
      s.refuses("sends(" + i + ", NONE)", -2, y -> y.sends(i, NONE));
      s.refuses("sends(" + i + ", 0)", -2, y -> y.sends(i, 0));
      s.refuses("tally(" + i + ", 0)", -2, y -> y.tally(i, 0));
    }
    if (lastGang < 0) return;
    for (int g : beside(0, lastGarden)) {
      if (g != NONE) s.refuses("sends(0, " + g + ")", -2, y -> y.sends(0, g));
    }
    for (int what : beside(0, 3)) s.refuses("tally(0, " + what + ")", -2, y -> y.tally(0, what));
  }

  private static void addBadOfKilns(Stage s, int lastKiln) {
    for (int k : beside(0, lastKiln)) {
      s.refuses("read(" + k + ", 9)", BAD, y -> y.read(k, 9));
      s.refuses("read(" + k + ", NONE)", BAD, y -> y.read(k, NONE));
      s.refuses("drying(" + k + ", 9)", BAD, y -> y.drying(k, 9));
      s.refuses("in(" + k + ", 0)", BAD, y -> y.in(k, 0));
    }
    if (lastKiln < 0) return;
    for (int reading : beside(0, 100)) {
      if (reading != NONE) s.refuses("read(0, " + reading + ")", BAD, y -> y.read(0, reading));
      s.refuses("drying(0, " + reading + ")", BAD, y -> y.drying(0, reading));
      s.refuses("drying(" + lastKiln + ", " + reading + ")", BAD, y -> y.drying(lastKiln, reading));
    }
    for (int what : beside(0, 3)) s.refuses("in(0, " + what + ")", BAD, y -> y.in(0, what));
  }

  private static void addStateAndFull(Stage s) {
    HopYard x = s.yard();
    int day = x.count(0) / 12;
    s.refuses("act(0, 9), begun", STATE, y -> y.act(0, 9));
    s.refuses("act(" + day + ", 9), begun", STATE, y -> y.act(day, 9));
    if (x.count(0) == 480) {
      for (int n : new int[] {1, 2, 23, 24}) s.refuses("hours(" + n + ")", STATE, y -> y.hours(n));
    } else if (s.name.equals("full")) {
      s.refuses("act(40, 9), a 21st", FULL, y -> y.act(40, 9));
      s.refuses("act(3, 9), a 21st", FULL, y -> y.act(3, 9));
    }
    if (x.count(1) < 6) return;
    s.refuses("garden(1, 0, 0), a seventh", FULL, y -> y.garden(1, 0, 0));
    s.refuses("garden(5000, 0, 40), a seventh", FULL, y -> y.garden(5000, 0, 40));
    s.refuses("gang(30, 80), a seventh", FULL, y -> y.gang(30, 80));
    s.refuses("kiln(2, 200), a fifth", FULL, y -> y.kiln(2, 200));
    s.refuses("price(" + x.count(0) + ", 50), a 21st", FULL, y -> y.price(y.count(0), 50));
    s.refuses("price(480, 50), a 21st", FULL, y -> y.price(480, 50));
  }

  // ---- the questions, and the twins

  private static void ask(List<Named> list, String name, Call call) {
    list.add(new Named(name, call, 0));
  }

  private static List<Named> questions() {
    List<Named> q = new ArrayList<>();
    for (int what = 0; what <= 9; what++) { int w = what; ask(q, "count(" + w + ")", y -> y.count(w)); }
    ask(q, "trace()", HopYard::trace);
    ask(q, "bound()", HopYard::bound);
    for (int ago = 0; ago <= 23; ago++) { int a = ago; ask(q, "green(" + a + ")", y -> y.green(a)); }
    for (int i = 0; i < 36; i++) { int g = i / 6, w = i % 6; ask(q, "about(" + g + ", " + w + ")", y -> y.about(g, w)); }
    for (int i = 0; i < 24; i++) { int g = i / 4, w = i % 4; ask(q, "tally(" + g + ", " + w + ")", y -> y.tally(g, w)); }
    for (int i = 0; i < 16; i++) { int k = i / 4, w = i % 4; ask(q, "in(" + k + ", " + w + ")", y -> y.in(k, w)); }
    for (int i = 0; i < 82; i++) { int d = i / 2, w = i % 2; ask(q, "most(" + d + ", " + w + ")", y -> y.most(d, w)); }
    for (int i = 0; i <= 40; i++) { int d = i; ask(q, "duty(" + d + ")", y -> y.duty(d)); }
    for (int i = 0; i <= 480; i++) { int h = i; ask(q, "priced(" + h + ")", y -> y.priced(h)); }
    for (int i = 0; i < 303; i++) { int p = i / 3, w = i % 3; ask(q, "pocket(" + p + ", " + w + ")", y -> y.pocket(p, w)); }
    return q;
  }

  /** What else can be done with a yard; its answers are compared too, so that nothing hidden differs. */
  private static List<Named> goingOn() {
    List<Named> on = new ArrayList<>();
    ask(on, "waits(5)", y -> y.waits(5));
    ask(on, "hours(3)", y -> y.hours(3));
    for (int i = 0; i < 6; i++) { int g = i; ask(on, "sends(" + g + ", 0)", y -> y.sends(g, 0)); }
    for (int i = 0; i < 4; i++) { int k = i; ask(on, "read(" + k + ", 95)", y -> y.read(k, 95)); }
    ask(on, "hours(14)", y -> y.hours(14));
    ask(on, "garden(40, 0, 40)", y -> y.garden(40, 0, 40));
    ask(on, "gang(9, 99)", y -> y.gang(9, 99));
    ask(on, "kiln(1, 44)", y -> y.kiln(1, 44));
    ask(on, "price(480, 33)", y -> y.price(480, 33));
    ask(on, "act(40, 33)", y -> y.act(40, 33));
    ask(on, "drying(0, 44)", y -> y.drying(0, 44));
    return on;
  }

  private static List<Named> asking() {
    List<Named> all = new ArrayList<>();
    for (int i = 0; i < QUESTIONS.size(); i += i < 200 ? 1 : 37) all.add(QUESTIONS.get(i));
    for (int i = 0; i < 4; i++) { int k = i; ask(all, "read(" + k + ", NONE)", y -> y.read(k, NONE)); }
    return all;
  }

  private static void changeNothing(Stage stage, List<Named> calls, boolean refusal) {
    for (int from = 0; from < QUESTIONS.size(); from += PART) {
      long[] want = answers(stage.yard(), from);
      for (Named made : calls) {
        HopYard x = stage.yard();
        long got = made.call.on(x);
        if (refusal) Check.due(made.name, got, made.due);
        long[] have = answers(x, from);
        for (int i = 0; i < want.length; i++) {
          if (have[i] != want[i]) Check.due("answer " + i + " of part " + from + " behind " + made.name, have[i], want[i]);
        }
      }
    }
  }

  /** A part of the questions, then all that goes on, then the same part again. */
  private static long[] answers(HopYard x, int from) {
    List<Named> on = goingOn();
    int end = Math.min(QUESTIONS.size(), from + PART), many = end - from;
    long[] all = new long[2 * many + on.size()];
    int n = 0;
    for (int i = from; i < end; i++) all[n++] = QUESTIONS.get(i).call.on(x);
    for (Named next : on) all[n++] = next.call.on(x);
    for (int i = from; i < end; i++) all[n++] = QUESTIONS.get(i).call.on(x);
    return all;
  }
}
