import com.sun.management.ThreadMXBean;
import java.lang.management.ManagementFactory;

/**
 * No call throws, by whatever numbers and in whatever state, also beyond the 512th call (what it answers there is
 * free and not looked at); and what an object and its calls take of the room that all calls of a run share.
 */
public final class RoomTest {
  private static final int[] NUMBERS = {0, 1, 2, 3, 4, 5, 6, 7, 10, 20, 23, 24, 25, 30, 31, 40, 41, 79, 80, 100, 101, 120, 121,
      200, 201, 479, 480, 481, 5000, 5001, -1, -2, -3, -8, -9, -10, 1 << 30, -(1 << 30), Integer.MAX_VALUE, Integer.MIN_VALUE};
  private static final int CALLS = 21;

  private static int wrong = 0;
  private static long seed = 1;

  private static void fault(String text) {
    wrong++;
    if (wrong <= 20) System.out.println(text);
  }

  private static int upTo(int n) {
    seed = seed * 6364136223846793005L + 1442695040888963407L;
    return (int) ((seed >>> 33) % n);
  }

  public static void main(String[] args) {
    everyPair(new HopYard());
    everyPair(begun());
    for (int run = 0; run < 40; run++) longRun(run);
    taken();
    System.out.println(wrong == 0 ? "no call throws, and the room suffices" : wrong + " faults");
    if (wrong != 0) System.exit(1);
  }

  private static long call(HopYard x, int which, int a, int b, int c) {
    switch (which) {
      case 0: return x.garden(a, b, c);
      case 1: return x.gang(a, b);
      case 2: return x.sends(a, b);
      case 3: return x.kiln(a, b);
      case 4: return x.read(a, b);
      case 5: return x.drying(a, b);
      case 6: return x.waits(a);
      case 7: return x.hours(a);
      case 8: return x.about(a, b);
      case 9: return x.tally(a, b);
      case 10: return x.in(a, b);
      case 11: return x.green(a);
      case 12: return x.pocket(a, b);
      case 13: return x.count(a);
      case 14: return x.price(a, b);
      case 15: return x.priced(a);
      case 16: return x.act(a, b);
      case 17: return x.duty(a);
      case 18: return x.bound();
      case 19: return x.most(a, b);
      default: return x.trace();
    }
  }

  private static void tried(HopYard x, int which, int a, int b, int c) {
    try {
      call(x, which, a, b, c);
    } catch (RuntimeException | Error e) {
      fault("call " + which + " by " + a + ", " + b + ", " + c + " threw " + e);
    }
  }

  private static HopYard begun() {
    HopYard x = new HopYard();
    fill(x);
    tell(x);
    x.hours(24);
    return x;
  }

  /** All that there can be of each kind, so that later calls have something to go over. */
  private static void fill(HopYard x) {
    for (int g = 0; g < 6; g++) x.garden(5000, 0, 40);
    for (int i = 0; i < 6; i++) x.gang(30, 80);
    for (int k = 0; k < 4; k++) x.kiln(k % 3, 200);
  }

  private static void tell(HopYard x) {
    for (int i = 0; i < 6; i++) x.sends(i, i);
    for (int i = 0; i < 20; i++) x.price(i, 1 + i);
    for (int i = 0; i < 20; i++) x.act(1 + i, i);
  }

  private static void everyPair(HopYard x) {
    for (int which = 0; which < CALLS; which++) {
      for (int a : NUMBERS) {
        for (int b : NUMBERS) tried(x, which, a, b, NUMBERS[upTo(NUMBERS.length)]);
      }
    }
  }

  private static void longRun(int run) {
    HopYard x = run % 2 == 0 ? new HopYard() : begun();
    for (int i = 0; i < 3000; i++) {
      int[] n = new int[3];
      for (int j = 0; j < 3; j++) n[j] = upTo(3) == 0 ? NUMBERS[upTo(NUMBERS.length)] : upTo(7);
      tried(x, upTo(CALLS), n[0], n[1], n[2]);
    }
  }

  // ---- the room

  /** Bytes that this thread takes are counted by the machine; each count is the least of several, for classes are loaded at first. */
  private static void taken() {
    if (!(ManagementFactory.getThreadMXBean() instanceof ThreadMXBean counter) || !counter.isThreadAllocatedMemorySupported()) {
      System.out.println("this machine does not count what a thread takes: left out");
      return;
    }
    long whole = Long.MAX_VALUE, later = Long.MAX_VALUE;
    for (int i = 0; i < 5; i++) {
      long before = counter.getCurrentThreadAllocatedBytes();
      HopYard x = new HopYard();
      fill(x);
      long made = counter.getCurrentThreadAllocatedBytes();
      tell(x);
      allOthers(x);
      long end = counter.getCurrentThreadAllocatedBytes();
      whole = Math.min(whole, made - before);
      later = Math.min(later, end - made);
    }
    // Some 2300 fields and elements, nearly all of 4 bytes, and what the machine adds to each object.
    if (whole > 16000) fault("an object with all that it can hold takes " + whole + " bytes");
    if (later > 256) fault("calls that make no garden, gang or kiln take " + later + " bytes");
  }

  private static void allOthers(HopYard x) {
    for (int round = 0; round < 12; round++) {
      for (int which = 0; which < CALLS; which++) {
        if (which == 7) x.hours(24);
        call(x, which, round % 6, round % 2, 40);
      }
    }
  }
}
