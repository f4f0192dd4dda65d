/** Yards that several tests begin with. */
final class Yards {
  private Yards() {}

  /** Goes on to an hour, by as few calls as may be. */
  static void to(HopYard x, int hour) {
    for (int now = x.count(0); now < hour; now = x.hours(Math.min(24, hour - now))) {
      if (now < 0) throw new IllegalStateException("hours() refused");
    }
  }

  /** One garden that is always ripe, and one gang at it. */
  static HopYard oneGang(int bushels, int rate, int measure) {
    HopYard x = new HopYard();
    x.garden(bushels, 0, 40);
    x.gang(rate, measure);
    x.sends(0, 0);
    return x;
  }

  /** Gardens of so many bushels (30 at most), a gang at each that picks them all in hour 0. */
  static HopYard pickedAtOnce(int... bushels) {
    HopYard x = new HopYard();
    for (int g = 0; g < bushels.length; g++) {
      x.garden(bushels[g], 0, 40);
      x.gang(30, 100);
      x.sends(g, g);
    }
    return x;
  }

  /** A kiln with this reading: its number. */
  static int kilnRead(HopYard x, int kind, int room, int reading) {
    int kiln = x.kiln(kind, room);
    x.read(kiln, reading);
    return kiln;
  }
}
