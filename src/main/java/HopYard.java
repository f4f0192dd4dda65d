import java.util.ArrayList;

/** Hop gardens, their gangs, kilns and pockets, hour by hour; README.md says how to use it. */
public final class HopYard {
    public static final int BAD = -1, STATE = -2, FULL = -3, NONE = -9;

    // sends and tally tell BAD by this number, as the document asks.
    private static final int BAD_OF_GANGS = -2;

    private static final int DAY_HOURS = 12;
    private static final int LAST_DAY = 40;
    private static final int LAST_HOUR = 480;
    private static final int MOST_HOURS = 24;

    private static final int MAX_GARDENS = 6;
    private static final int MAX_BUSHELS = 5000;
    private static final int MAX_GANGS = 6;
    private static final int MAX_RATE = 30;
    private static final int LEAST_MEASURE = 80;
    private static final int MAX_MEASURE = 120;

    private static final int MAX_KILNS = 4;
    private static final int KINDS = 3;
    private static final int MAX_ROOM = 200;
    private static final int MAX_READING = 100;
    private static final int FIRST_READING = 50;
    private static final int DONE_SHARE = 60;

    private static final int MAX_WAIT = 24;
    private static final int FIRST_WAIT = 10;
    private static final int POCKET_BUSHELS = 20;
    private static final int MAX_LED = 100;

    private static final int MAX_NOTICES = 20;
    private static final int FIRST_PRICE = 2;
    private static final int MAX_PRICE = 50;
    private static final int MAX_DUTY = 100;

    private final ArrayList<Garden> gardens;
    private final ArrayList<Gang> gangs;
    private final ArrayList<Kiln> kilns;
    private final GreenHops greenHops;
    private final Press press;
    private final Notices prices;
    private final Notices duties;
    private final Allotment allotment;
    private int now;
    private int wait;
    private long traced;

    public HopYard() {
        gardens = new ArrayList<Garden>();
        gangs = new ArrayList<Gang>();
        kilns = new ArrayList<Kiln>();
        greenHops = new GreenHops();
        press = new Press();
        prices = new Notices(FIRST_PRICE);
        duties = new Notices(0);
        allotment = new Allotment();
        now = 0;
        wait = FIRST_WAIT;
        traced = 0;
    }

    // ---- gardens, gangs, kilns

    public int garden(int bushels, int from, int to) {
        if (!within(bushels, 1, MAX_BUSHELS)) return BAD;
        if (!within(from, 0, LAST_DAY) || !within(to, from, LAST_DAY)) return BAD;
        if (gardens.size() >= MAX_GARDENS) return FULL;
        gardens.add(new Garden(bushels, from, to));
        return gardens.size() - 1;
    }

    public int gang(int rate, int measure) {
        if (!within(rate, 1, MAX_RATE)) return BAD;
        if (!within(measure, LEAST_MEASURE, MAX_MEASURE)) return BAD;
        if (gangs.size() >= MAX_GANGS) return FULL;
        gangs.add(new Gang(rate, measure));
        return gangs.size() - 1;
    }

    public int sends(int gang, int garden) {
        Gang sent = gangOf(gang);
        if (sent == null) return BAD_OF_GANGS;
        if (garden != NONE && gardenOf(garden) == null) return BAD_OF_GANGS;
        int before = sent.at;
        sent.at = garden;
        return before;
    }

    public int kiln(int kind, int room) {
        if (!within(kind, 0, KINDS - 1) || !within(room, 1, MAX_ROOM)) return BAD;
        if (kilns.size() >= MAX_KILNS) return FULL;
        kilns.add(new Kiln(kindOf(kind), room));
        return kilns.size() - 1;
    }

    public int read(int kiln, int reading) {
        Kiln asked = kilnOf(kiln);
        if (asked == null) return BAD;
        if (reading != NONE && !within(reading, 0, MAX_READING)) return BAD;
        int before = asked.reading;
        if (reading != NONE) asked.reading = reading;
        return before;
    }

    public int drying(int kiln, int reading) {
        Kiln asked = kilnOf(kiln);
        if (asked == null || !within(reading, 0, MAX_READING)) return BAD;
        traced += asked.kind.marks();
        return asked.kind.dries(reading);
    }

    public int waits(int v) {
        if (!within(v, 1, MAX_WAIT)) return BAD;
        int before = wait;
        wait = v;
        return before;
    }

    public int hours(int n) {
        if (!within(n, 1, MOST_HOURS)) return BAD;
        if (now + n > LAST_HOUR) return STATE;
        for (int i = 0; i < n; i++) passHour();
        return now;
    }

    // ---- what there is

    public int about(int garden, int what) {
        Garden asked = gardenOf(garden);
        if (asked == null) return BAD;
        switch (what) {
            case 0: return asked.left;
            case 1: return asked.picked;
            case 2: return greenHops.ofGarden(garden);
            case 3: return inKilnsOf(garden);
            case 4: return asked.lost;
            case 5: return asked.dried;
            default: return BAD;
        }
    }

    public int tally(int gang, int what) {
        Gang asked = gangOf(gang);
        if (asked == null) return BAD_OF_GANGS;
        switch (what) {
            case 0: return asked.picked;
            case 1: return asked.told;
            case 2: return asked.pay;
            case 3: return asked.at;
            default: return BAD_OF_GANGS;
        }
    }

    public int in(int kiln, int what) {
        Kiln asked = kilnOf(kiln);
        if (asked == null) return BAD;
        switch (what) {
            case 0: return asked.bushels;
            case 1: return asked.share;
            case 2: return asked.reading;
            case 3: return asked.gardenBits();
            default: return BAD;
        }
    }

    public int green(int hours) {
        if (!within(hours, 0, MAX_WAIT - 1)) return BAD;
        return greenHops.ofHour(now - 1 - hours);
    }

    public int pocket(int pocket, int what) {
        if (!within(pocket, 0, press.led() - 1)) return BAD;
        switch (what) {
            case 0: return press.gardens[pocket];
            case 1: return press.days[pocket];
            case 2: return duties.inForce(press.days[pocket]);
            default: return BAD;
        }
    }

    public int count(int what) {
        switch (what) {
            case 0: return now;
            case 1: return gardens.size();
            case 2: return gangs.size();
            case 3: return kilns.size();
            case 4: return press.pressed;
            case 5: return press.loose;
            case 6: return chargedInAll();
            case 7: return lostInAll();
            case 8: return greenHops.inAll;
            case 9: return payInAll();
            default: return BAD;
        }
    }

    // ---- prices, acts, bounds

    public int price(int hour, int v) {
        if (!within(hour, now, LAST_HOUR) || !within(v, 1, MAX_PRICE)) return BAD;
        return prices.tell(hour, v) ? 1 : FULL;
    }

    public int priced(int hour) {
        if (!within(hour, 0, LAST_HOUR)) return BAD;
        return prices.inForce(hour);
    }

    public int act(int day, int v) {
        if (!within(day, 0, LAST_DAY) || !within(v, 0, MAX_DUTY)) return BAD;
        if (day * DAY_HOURS <= now) return STATE;
        return duties.tell(day, v) ? 1 : FULL;
    }

    public int duty(int day) {
        if (!within(day, 0, LAST_DAY)) return BAD;
        return duties.inForce(day);
    }

    public int bound() {
        int sum = 0;
        for (int k = 0; k < kilns.size(); k++) sum += kilns.get(k).bears();
        return sum;
    }

    public int most(int day, int what) {
        if (!within(day, 0, LAST_DAY) || !within(what, 0, 1)) return BAD;
        allotment.begin(gangs);
        for (int g = 0; g < gardens.size(); g++) {
            Garden offered = gardens.get(g);
            if (offered.isRipe(day)) allotment.offer(g, offered.left);
        }
        return what == 0 ? allotment.bushels() : allotment.number();
    }

    public long trace() {
        return traced;
    }

    // ---- an hour

    private void passHour() {
        pickHour();
        dryHour();
        loseHour();
        fillHour();
        now++;
    }

    private void pickHour() {
        int paid = prices.inForce(now);
        for (int i = 0; i < gangs.size(); i++) {
            Gang picker = gangs.get(i);
            Garden place = gardenOf(picker.at);
            if (place == null || !place.isRipe(now / DAY_HOURS)) continue;
            int bushels = place.yields(picker.rate);
            picker.enter(bushels, paid);
            greenHops.lay(now, picker.at, bushels);
        }
    }

    private void dryHour() {
        for (int k = 0; k < kilns.size(); k++) {
            Kiln fired = kilns.get(k);
            if (fired.isEmpty()) continue;
            fired.share += fired.kind.dries(fired.reading);
            if (fired.share >= DONE_SHARE) unload(fired);
        }
    }

    private void unload(Kiln done) {
        for (int i = 0; i < done.lots; i++) {
            Garden grower = gardenOf(done.lotGarden[i]);
            if (grower != null) grower.dried += done.lotBushels[i];
            press.lay(done.lotGarden[i], done.lotBushels[i], now / DAY_HOURS);
        }
        done.clear();
    }

    private void loseHour() {
        for (int ago = wait; ago < GreenHops.HELD; ago++) {
            for (int g = 0; g < gardens.size(); g++) {
                gardens.get(g).lost += greenHops.give(now - ago, g, MAX_BUSHELS);
            }
        }
    }

    private void fillHour() {
        for (int k = 0; k < kilns.size(); k++) {
            Kiln filled = kilns.get(k);
            if (filled.isEmpty()) fill(filled);
        }
    }

    private void fill(Kiln filled) {
        // What has waited longer was lost in this hour, ahead of this.
        for (int ago = wait - 1; ago >= 0; ago--) {
            for (int g = 0; g < gardens.size(); g++) {
                if (greenHops.inAll == 0 || filled.free() == 0) return;
                filled.take(g, greenHops.give(now - ago, g, filled.free()));
            }
        }
    }

    // ---- sums and finding

    private int inKilnsOf(int garden) {
        int sum = 0;
        for (int k = 0; k < kilns.size(); k++) sum += kilns.get(k).ofGarden(garden);
        return sum;
    }

    private int chargedInAll() {
        int sum = 0;
        for (int p = 0; p < press.led(); p++) sum += duties.inForce(press.days[p]);
        return sum;
    }

    private int lostInAll() {
        int sum = 0;
        for (int g = 0; g < gardens.size(); g++) sum += gardens.get(g).lost;
        return sum;
    }

    private int payInAll() {
        int sum = 0;
        for (int i = 0; i < gangs.size(); i++) sum += gangs.get(i).pay;
        return sum;
    }

    private Garden gardenOf(int number) {
        return within(number, 0, gardens.size() - 1) ? gardens.get(number) : null;
    }

    private Gang gangOf(int number) {
        return within(number, 0, gangs.size() - 1) ? gangs.get(number) : null;
    }

    private Kiln kilnOf(int number) {
        return within(number, 0, kilns.size() - 1) ? kilns.get(number) : null;
    }

    private static Plain kindOf(int kind) {
        switch (kind) {
            case 1: return new Draught();
            case 2: return new Doubled();
            default: return new Plain();
        }
    }

    private static boolean within(int number, int least, int greatest) {
        return number >= least && number <= greatest;
    }

    private static final class Garden {
        final int from;
        final int to;
        int left;
        int picked;
        int lost;
        int dried;

        Garden(int bushels, int from, int to) {
            this.from = from;
            this.to = to;
            left = bushels;
        }

        boolean isRipe(int day) {
            return within(day, from, to);
        }

        int yields(int rate) {
            int bushels = Math.min(rate, left);
            left -= bushels;
            picked += bushels;
            return bushels;
        }
    }

    private static final class Gang {
        final int rate;
        final int measure;
        int at;
        int picked;
        int told;
        int pay;

        Gang(int rate, int measure) {
            this.rate = rate;
            this.measure = measure;
            at = NONE;
        }

        void enter(int bushels, int paid) {
            int toldNow = bushels * 100 / measure;
            picked += bushels;
            told += toldNow;
            pay += toldNow * paid;
        }
    }

    /** The kind over all others; marks() is what drying() brings to the trace by asking dries(). */
    private static class Plain {
        int dries(int reading) {
            return reading / 5;
        }

        int marks() {
            return 1;
        }
    }

    private static class Draught extends Plain {
        int dries(int reading) {
            int up = super.dries(reading);
            return reading >= 40 ? up + 3 : up;
        }

        int marks() {
            return super.marks() + 10;
        }
    }

    private static final class Doubled extends Draught {
        int dries(int reading) {
            return Math.min(2 * super.dries(reading), 40);
        }

        int marks() {
            return super.marks() + 100;
        }
    }

    /** What a kiln holds stands in lots, in the order in which it took them. */
    private static final class Kiln {
        final Plain kind;
        final int room;
        final int[] lotGarden;
        final int[] lotBushels;
        int lots;
        int bushels;
        int share;
        int reading;

        Kiln(Plain kind, int room) {
            this.kind = kind;
            this.room = room;
            // No lot is empty, so there are never more lots than bushels.
            lotGarden = new int[room];
            lotBushels = new int[room];
            reading = FIRST_READING;
        }

        boolean isEmpty() {
            return bushels == 0;
        }

        int free() {
            return room - bushels;
        }

        void take(int garden, int taken) {
            if (taken <= 0 || lots >= lotGarden.length) return;
            lotGarden[lots] = garden;
            lotBushels[lots] = taken;
            lots++;
            bushels += taken;
        }

        void clear() {
            lots = 0;
            bushels = 0;
            share = 0;
        }

        int ofGarden(int garden) {
            int sum = 0;
            for (int i = 0; i < lots; i++) {
                if (lotGarden[i] == garden) sum += lotBushels[i];
            }
            return sum;
        }

        int gardenBits() {
            int bits = 0;
            for (int i = 0; i < lots; i++) bits |= 1 << lotGarden[i];
            return bits;
        }

        int bears() {
            int dried = kind.dries(reading);
            if (dried <= 0) return 0;
            int takes = (DONE_SHARE + dried - 1) / dried;
            return room / Math.max(takes, 1);
        }
    }

    /** Green by hour and garden, in a ring of as many hours as can be held at once. */
    private static final class GreenHops {
        // The oldest, picked MAX_WAIT hours ago, is lost only after this hour's has come.
        static final int HELD = MAX_WAIT + 1;

        final int[] bushels;
        int inAll;

        GreenHops() {
            bushels = new int[HELD * MAX_GARDENS];
        }

        static int place(int hour, int garden) {
            return Math.floorMod(hour, HELD) * MAX_GARDENS + garden;
        }

        void lay(int hour, int garden, int laid) {
            if (!within(garden, 0, MAX_GARDENS - 1)) return;
            bushels[place(hour, garden)] += laid;
            inAll += laid;
        }

        int give(int hour, int garden, int atMost) {
            if (!within(garden, 0, MAX_GARDENS - 1)) return 0;
            int place = place(hour, garden);
            int given = Math.min(bushels[place], atMost);
            bushels[place] -= given;
            inAll -= given;
            return given;
        }

        int ofHour(int hour) {
            int sum = 0;
            for (int g = 0; g < MAX_GARDENS; g++) sum += bushels[place(hour, g)];
            return sum;
        }

        int ofGarden(int garden) {
            if (!within(garden, 0, MAX_GARDENS - 1)) return 0;
            int sum = 0;
            for (int h = 0; h < HELD; h++) sum += bushels[place(h, garden)];
            return sum;
        }
    }

    private static final class Press {
        final int[] gardens;
        final int[] days;
        int pressed;
        int loose;
        int looseGardens;

        Press() {
            gardens = new int[MAX_LED];
            days = new int[MAX_LED];
        }

        int led() {
            return Math.min(pressed, MAX_LED);
        }

        void lay(int garden, int laid, int day) {
            if (laid <= 0) return;
            looseGardens |= 1 << garden;
            for (loose += laid; loose >= POCKET_BUSHELS; loose -= POCKET_BUSHELS) {
                pressOne(day);
                // What is over behind a pocket is of this garden alone.
                looseGardens = 1 << garden;
            }
            if (loose == 0) looseGardens = 0;
        }

        void pressOne(int day) {
            if (pressed < MAX_LED) {
                gardens[pressed] = looseGardens;
                days[pressed] = day;
            }
            pressed++;
        }
    }

    /** Numbers that are told to be in force from a time on. */
    private static final class Notices {
        final int[] from;
        final int[] number;
        final int first;
        int count;

        Notices(int first) {
            this.first = first;
            from = new int[MAX_NOTICES];
            number = new int[MAX_NOTICES];
        }

        boolean tell(int when, int v) {
            if (count >= MAX_NOTICES) return false;
            from[count] = when;
            number[count] = v;
            count++;
            return true;
        }

        int inForce(int when) {
            int latest = -1;
            int found = first;
            for (int i = 0; i < count; i++) {
                // Of one time the later told holds, so an equal one goes over the earlier.
                if (from[i] <= when && from[i] >= latest) {
                    latest = from[i];
                    found = number[i];
                }
            }
            return found;
        }
    }

    /**
     * Which gangs to which gardens picks most. Over sets of gangs (bits), garden by garden: a
     * set's worth is its bushels times WEIGHT less its number, so that the greatest worth is
     * most bushels and, among those, the least number. A number is always less than WEIGHT.
     */
    private static final class Allotment {
        static final int SETS = 1 << MAX_GANGS;
        static final int DIGIT = MAX_GARDENS + 1;
        // DIGIT to the power of MAX_GANGS.
        static final int WEIGHT = 117649;

        final int[] rates;
        final int[] places;
        final int[] worth;
        int sets;

        Allotment() {
            rates = new int[SETS];
            places = new int[SETS];
            worth = new int[SETS];
            sets = 1;
        }

        void begin(ArrayList<Gang> gangs) {
            sets = 1;
            worth[0] = 0;
            int place = 1;
            for (int i = 0; i < gangs.size() && i < MAX_GANGS; i++) {
                addGang(gangs.get(i).rate, place);
                place *= DIGIT;
            }
        }

        void addGang(int rate, int place) {
            int known = sets;
            for (int s = 0; s < known && known + s < SETS; s++) {
                rates[known + s] = rates[s] + rate;
                places[known + s] = places[s] + place;
                worth[known + s] = 0;
            }
            sets = Math.min(2 * known, SETS);
        }

        /** Greater sets first: what a lesser set was worth without this garden is still needed. */
        void offer(int garden, int left) {
            for (int set = sets - 1; set > 0; set--) {
                int best = worth[set];
                for (int part = set; part > 0; part = (part - 1) & set) {
                    int picked = Math.min(rates[part] * DAY_HOURS, left);
                    int own = picked * WEIGHT - places[part] * (garden + 1);
                    best = Math.max(best, own + worth[set ^ part]);
                }
                worth[set] = best;
            }
        }

        int bushels() {
            return (worth[sets - 1] + WEIGHT - 1) / WEIGHT;
        }

        int number() {
            return bushels() * WEIGHT - worth[sets - 1];
        }
    }
}
