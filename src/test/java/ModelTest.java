import java.util.ArrayList;
import java.util.List;

/**
 * Long mixed runs of calls, each answer beside that of a plain model, which goes bushel by bushel
 * and way by way, as the document tells it. The calls come from a counted generator, so every run
 * is the same each time.
 */
public final class ModelTest {
  private static final int BAD = -1, STATE = -2, FULL = -3, NONE = -9;

  /** A bushel, from its picking on. */
  private static final class Bushel {
    final int garden, hour;
    Bushel(int garden, int hour) { this.garden = garden; this.hour = hour; }
  }

  private static final class Kiln {
    int kind, room, reading = 50, share = 0;
    List<Bushel> load = new ArrayList<>();
  }

  private static final class Model {
    int now = 0, wait = 10, pressed = 0;
    long trace = 0;
    List<int[]> gardens = new ArrayList<>();  // left, from, to, picked, lost, dried
    List<int[]> gangs = new ArrayList<>();    // rate, measure, at, picked, told, pay
    List<Kiln> kilns = new ArrayList<>();
    List<Bushel> green = new ArrayList<>();
    List<Bushel> loose = new ArrayList<>();
    List<int[]> pockets = new ArrayList<>();  // gardens, day
    List<int[]> prices = new ArrayList<>();
    List<int[]> acts = new ArrayList<>();

    static boolean has(List<?> list, int i) { return i >= 0 && i < list.size(); }

    int garden(int bushels, int from, int to) {
      if (bushels < 1 || bushels > 5000 || from < 0 || from > 40 || to < 0 || to > 40 || from > to) return BAD;
      if (gardens.size() == 6) return FULL;
      gardens.add(new int[] {bushels, from, to, 0, 0, 0});
      return gardens.size() - 1;
    }

    int gang(int rate, int measure) {
      if (rate < 1 || rate > 30 || measure < 80 || measure > 120) return BAD;
      if (gangs.size() == 6) return FULL;
      gangs.add(new int[] {rate, measure, NONE, 0, 0, 0});
      return gangs.size() - 1;
    }

    int sends(int gang, int garden) {
      if (!has(gangs, gang) || (garden != NONE && !has(gardens, garden))) return -2;
      int was = gangs.get(gang)[2];
      gangs.get(gang)[2] = garden;
      return was;
    }

    int kiln(int kind, int room) {
      if (kind < 0 || kind > 2 || room < 1 || room > 200) return BAD;
      if (kilns.size() == 4) return FULL;
      Kiln k = new Kiln();
      k.kind = kind;
      k.room = room;
      kilns.add(k);
      return kilns.size() - 1;
    }

    int read(int kiln, int reading) {
      if (!has(kilns, kiln) || (reading != NONE && (reading < 0 || reading > 100))) return BAD;
      int was = kilns.get(kiln).reading;
      if (reading != NONE) kilns.get(kiln).reading = reading;
      return was;
    }

    static int dried(int kind, int reading) {
      if (kind == 0) return reading / 5;
      int draught = reading / 5 + (reading >= 40 ? 3 : 0);
      if (kind == 1) return draught;
      return draught > 20 ? 40 : draught + draught;
    }

    int drying(int kiln, int reading) {
      if (!has(kilns, kiln) || reading < 0 || reading > 100) return BAD;
      int kind = kilns.get(kiln).kind;
      trace += kind == 0 ? 1 : kind == 1 ? 11 : 111;
      return dried(kind, reading);
    }

    int waits(int v) {
      if (v < 1 || v > 24) return BAD;
      int was = wait;
      wait = v;
      return was;
    }

    int hours(int n) {
      if (n < 1 || n > 24) return BAD;
      if (now + n > 480) return STATE;
      for (int i = 0; i < n; i++) hour();
      return now;
    }

    void hour() {
      int day = now / 12;
      for (int[] gang : gangs) {
        if (gang[2] == NONE) continue;
        int[] garden = gardens.get(gang[2]);
        if (day < garden[1] || day > garden[2]) continue;
        int picked = 0;
        while (picked < gang[0] && garden[0] > 0) {
          garden[0]--;
          garden[3]++;
          picked++;
          green.add(new Bushel(gang[2], now));
        }
        gang[3] += picked;
        gang[4] += picked * 100 / gang[1];
        gang[5] += picked * 100 / gang[1] * priced(now);
      }
      for (Kiln kiln : kilns) {
        if (kiln.load.isEmpty()) continue;
        kiln.share += dried(kiln.kind, kiln.reading);
        if (kiln.share < 60) continue;
        for (Bushel b : kiln.load) {
          gardens.get(b.garden)[5]++;
          loose.add(b);
          if (loose.size() == 20) press(day);
        }
        kiln.load = new ArrayList<>();
        kiln.share = 0;
      }
      List<Bushel> kept = new ArrayList<>();
      for (Bushel b : green) {
        if (now - b.hour >= wait) gardens.get(b.garden)[4]++;
        else kept.add(b);
      }
      // The oldest hour first, of one hour the lesser gardens; the sort keeps equal ones in order.
      kept.sort((a, b) -> a.hour != b.hour ? a.hour - b.hour : a.garden - b.garden);
      green = kept;
      for (Kiln kiln : kilns) {
        if (!kiln.load.isEmpty()) continue;
        int taken = Math.min(kiln.room, green.size());
        kiln.load = new ArrayList<>(green.subList(0, taken));
        kiln.share = 0;
        green = new ArrayList<>(green.subList(taken, green.size()));
      }
      now++;
    }

    void press(int day) {
      int bits = 0;
      for (Bushel b : loose) bits |= 1 << b.garden;
      if (pressed < 100) pockets.add(new int[] {bits, day});
      pressed++;
      loose = new ArrayList<>();
    }

    int about(int garden, int what) {
      if (!has(gardens, garden)) return BAD;
      int[] g = gardens.get(garden);
      int n = 0;
      switch (what) {
        case 0: return g[0];
        case 1: return g[3];
        case 2:
          for (Bushel b : green) if (b.garden == garden) n++;
          return n;
        case 3:
          for (Kiln k : kilns) for (Bushel b : k.load) if (b.garden == garden) n++;
          return n;
        case 4: return g[4];
        case 5: return g[5];
        default: return BAD;
      }
    }

    int tally(int gang, int what) {
      if (!has(gangs, gang) || what < 0 || what > 3) return -2;
      return gangs.get(gang)[what == 3 ? 2 : 3 + what];
    }

    int in(int kiln, int what) {
      if (!has(kilns, kiln) || what < 0 || what > 3) return BAD;
      Kiln k = kilns.get(kiln);
      int bits = 0;
      for (Bushel b : k.load) bits |= 1 << b.garden;
      return new int[] {k.load.size(), k.share, k.reading, bits}[what];
    }

    int green(int hours) {
      if (hours < 0 || hours > 23) return BAD;
      int n = 0;
      for (Bushel b : green) if (now - 1 - b.hour == hours) n++;
      return n;
    }

    int pocket(int pocket, int what) {
      if (!has(pockets, pocket) || what < 0 || what > 2) return BAD;
      int[] p = pockets.get(pocket);
      return what == 2 ? duty(p[1]) : p[what];
    }

    int count(int what) {
      int n = 0;
      switch (what) {
        case 0: return now;
        case 1: return gardens.size();
        case 2: return gangs.size();
        case 3: return kilns.size();
        case 4: return pressed;
        case 5: return loose.size();
        case 6:
          for (int[] p : pockets) n += duty(p[1]);
          return n;
        case 7:
          for (int[] g : gardens) n += g[4];
          return n;
        case 8: return green.size();
        case 9:
          for (int[] g : gangs) n += g[5];
          return n;
        default: return BAD;
      }
    }

    /** Backwards from a time: the first time for which anything was told, the last told of it. */
    static int told(List<int[]> list, int when, int first) {
      for (int t = when; t >= 0; t--) {
        for (int i = list.size() - 1; i >= 0; i--) if (list.get(i)[0] == t) return list.get(i)[1];
      }
      return first;
    }

    int price(int hour, int v) {
      if (hour < now || hour > 480 || v < 1 || v > 50) return BAD;
      if (prices.size() == 20) return FULL;
      prices.add(new int[] {hour, v});
      return 1;
    }

    int priced(int hour) { return hour < 0 || hour > 480 ? BAD : told(prices, hour, 2); }

    int act(int day, int v) {
      if (day < 0 || day > 40 || v < 0 || v > 100) return BAD;
      if (now >= 12 * day) return STATE;
      if (acts.size() == 20) return FULL;
      acts.add(new int[] {day, v});
      return 1;
    }

    int duty(int day) { return day < 0 || day > 40 ? BAD : told(acts, day, 0); }

    int bound() {
      int sum = 0;
      for (Kiln k : kilns) {
        int d = dried(k.kind, k.reading);
        if (d == 0) continue;
        int takes = 0;
        while (takes * d < 60) takes++;
        sum += k.room / takes;
      }
      return sum;
    }

    int most(int day, int what) {
      if (day < 0 || day > 40 || what < 0 || what > 1) return BAD;
      int ways = 1;
      for (int i = 0; i < gangs.size(); i++) ways *= 7;
      int best = -1, number = 0;
      int[] rates = new int[6];
      for (int way = 0; way < ways; way++) {
        java.util.Arrays.fill(rates, 0);
        int rest = way;
        boolean real = true;
        for (int i = 0; i < gangs.size(); i++, rest /= 7) {
          int garden = rest % 7 - 1;
          if (garden >= gardens.size()) real = false;
          if (garden >= 0) rates[garden] += gangs.get(i)[0];
        }
        if (!real) continue;
        int picked = 0;
        for (int g = 0; g < gardens.size(); g++) {
          int[] garden = gardens.get(g);
          if (day >= garden[1] && day <= garden[2]) picked += Math.min(12 * rates[g], garden[0]);
        }
        if (picked > best) {
          best = picked;
          number = way;
        }
      }
      return what == 0 ? best : number;
    }
  }

  /** The questions at the end of a run go in so many parts of so many calls. */
  private static final int PARTS = 8, PART = 165;

  private static long seed;
  private static int wrong = 0;
  private static int calls = 0;
  private static int part = 0;
  private static int question = 0;

  private static int upTo(int n) {
    seed = seed * 6364136223846793005L + 1442695040888963407L;
    return (int) ((seed >>> 33) % n);
  }

  private static int between(int least, int greatest) { return least + upTo(greatest - least + 1); }

  /** Mostly within the bounds, at times at their edge or beyond. */
  private static int about(int least, int greatest) {
    switch (upTo(24)) {
      case 0: return least - 1;
      case 1: return greatest + 1;
      case 2: return least;
      case 3: return greatest;
      case 4: return upTo(4) == 0 ? new int[] {NONE, Integer.MIN_VALUE, Integer.MAX_VALUE, -1}[upTo(4)] : least;
      default: return between(least, greatest);
    }
  }

  private static void due(int run, int call, String text, long got, long want) {
    if (got == want) return;
    wrong++;
    if (wrong <= 40) System.out.println("run " + run + " call " + call + ": " + text + " answered " + got + ", due is " + want);
  }

  public static void main(String[] args) {
    for (int run = 0; run < 600; run++) oneRun(run);
    System.out.println(wrong == 0 ? "the model agrees" : wrong + " answers are not the model's");
    if (wrong != 0) System.exit(1);
  }

  /** No object is called more than 512 times, so a run ends with one part of the questions, or with none of them. */
  private static void oneRun(int run) {
    seed = 977L * run + 5;
    HopYard x = new HopYard();
    Model m = new Model();
    boolean poor = upTo(2) == 0;
    int longest = upTo(3) == 0 ? 24 : 4;
    int mosts = 0;
    part = run % (PARTS + 1);
    calls = 0;
    while (calls <= (part == PARTS ? 510 : 510 - PART)) {
      int kind = calls < 30 ? upTo(8) : upTo(23);
      if (kind == 20 && mosts++ > 3) kind = 7;
      step(run, calls, kind, x, m, poor, longest);
      calls += kind == 5 || kind == 17 || kind == 18 ? 2 : 1;
    }
    if (part < PARTS) compareAll(run, x, m);
  }

  private static void step(int run, int call, int kind, HopYard x, Model m, boolean poor, int longest) {
    int a, b, c;
    switch (kind) {
      case 0:
        a = poor ? about(1, 300) : about(1, 5000); b = upTo(2) == 0 ? 0 : about(0, 40); c = upTo(2) == 0 ? 40 : about(0, 40);
        due(run, call, "garden(" + a + ", " + b + ", " + c + ")", x.garden(a, b, c), m.garden(a, b, c));
        break;
      case 1:
        a = about(1, 30); b = about(80, 120);
        due(run, call, "gang(" + a + ", " + b + ")", x.gang(a, b), m.gang(a, b));
        break;
      case 2: case 8:
        a = about(0, Math.max(0, m.gangs.size() - 1)); b = upTo(8) == 0 ? NONE : about(0, Math.max(0, m.gardens.size() - 1));
        due(run, call, "sends(" + a + ", " + b + ")", x.sends(a, b), m.sends(a, b));
        break;
      case 3:
        a = about(0, 2); b = poor ? about(1, 30) : about(1, 200);
        due(run, call, "kiln(" + a + ", " + b + ")", x.kiln(a, b), m.kiln(a, b));
        break;
      case 4:
        a = about(0, Math.max(0, m.kilns.size() - 1)); b = upTo(6) == 0 ? NONE : about(0, 100);
        due(run, call, "read(" + a + ", " + b + ")", x.read(a, b), m.read(a, b));
        break;
      case 5:
        a = about(0, Math.max(0, m.kilns.size() - 1)); b = about(0, 100);
        due(run, call, "drying(" + a + ", " + b + ")", x.drying(a, b), m.drying(a, b));
        due(run, call, "trace()", x.trace(), m.trace);
        break;
      case 6:
        a = about(1, 24);
        due(run, call, "waits(" + a + ")", x.waits(a), m.waits(a));
        break;
      case 7: case 9: case 10:
        a = about(1, longest);
        due(run, call, "hours(" + a + ")", x.hours(a), m.hours(a));
        break;
      case 11:
        a = about(0, 5); b = about(0, 5);
        due(run, call, "about(" + a + ", " + b + ")", x.about(a, b), m.about(a, b));
        break;
      case 12:
        a = about(0, 5); b = about(0, 3);
        due(run, call, "tally(" + a + ", " + b + ")", x.tally(a, b), m.tally(a, b));
        break;
      case 13:
        a = about(0, 3); b = about(0, 3);
        due(run, call, "in(" + a + ", " + b + ")", x.in(a, b), m.in(a, b));
        break;
      case 14:
        a = about(0, 23);
        due(run, call, "green(" + a + ")", x.green(a), m.green(a));
        break;
      case 15:
        a = about(0, Math.max(0, m.pockets.size() - 1)); b = about(0, 2);
        due(run, call, "pocket(" + a + ", " + b + ")", x.pocket(a, b), m.pocket(a, b));
        break;
      case 16:
        a = about(0, 9);
        due(run, call, "count(" + a + ")", x.count(a), m.count(a));
        break;
      case 17:
        a = upTo(2) == 0 ? about(0, 480) : about(m.now, m.now + 20); b = about(1, 50);
        due(run, call, "price(" + a + ", " + b + ")", x.price(a, b), m.price(a, b));
        due(run, call, "priced(" + a + ")", x.priced(a), m.priced(a));
        break;
      case 18:
        a = upTo(2) == 0 ? about(0, 40) : about(m.now / 12, m.now / 12 + 4); b = about(0, 100);
        due(run, call, "act(" + a + ", " + b + ")", x.act(a, b), m.act(a, b));
        due(run, call, "duty(" + a + ")", x.duty(a), m.duty(a));
        break;
      case 19:
        due(run, call, "bound()", x.bound(), m.bound());
        break;
      case 20:
        a = about(0, 40); b = about(0, 1);
        due(run, call, "most(" + a + ", " + b + ")", x.most(a, b), m.most(a, b));
        break;
      case 21:
        a = about(0, 480);
        due(run, call, "priced(" + a + ")", x.priced(a), m.priced(a));
        break;
      default:
        a = about(0, 40);
        due(run, call, "duty(" + a + ")", x.duty(a), m.duty(a));
        break;
    }
  }

  /** Whether the next question is of this run's part. */
  private static boolean asks() {
    return question++ / PART == part;
  }

  private static void compareAll(int run, HopYard x, Model m) {
    question = 0;
    for (int i = -1; i <= 6; i++) {
      for (int what = -1; what <= 6; what++) {
        if (asks()) due(run, calls, "about(" + i + ", " + what + ")", x.about(i, what), m.about(i, what));
        if (asks()) due(run, calls, "tally(" + i + ", " + what + ")", x.tally(i, what), m.tally(i, what));
        if (asks()) due(run, calls, "in(" + i + ", " + what + ")", x.in(i, what), m.in(i, what));
      }
    }
    for (int i = -1; i <= 24; i++) if (asks()) due(run, calls, "green(" + i + ")", x.green(i), m.green(i));
    for (int i = -1; i <= 100; i++) {
      for (int what = -1; what <= 3; what++) {
        if (asks()) due(run, calls, "pocket(" + i + ", " + what + ")", x.pocket(i, what), m.pocket(i, what));
      }
    }
    for (int i = -1; i <= 10; i++) if (asks()) due(run, calls, "count(" + i + ")", x.count(i), m.count(i));
    for (int i = -1; i <= 481; i++) if (asks()) due(run, calls, "priced(" + i + ")", x.priced(i), m.priced(i));
    for (int i = -1; i <= 41; i++) if (asks()) due(run, calls, "duty(" + i + ")", x.duty(i), m.duty(i));
    if (asks()) due(run, calls, "bound()", x.bound(), m.bound());
    if (asks()) due(run, calls, "trace()", x.trace(), m.trace);
    if (question > PARTS * PART) throw new IllegalStateException("more questions than parts: " + question);
  }
}
