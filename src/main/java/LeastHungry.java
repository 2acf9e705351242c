import java.util.Arrays;

/** A table at which who wants least is served first. The document tells what each call answers. */
public final class LeastHungry {
    public static final int NONE = -6, UNKNOWN = -1, OUTSIDE = -2, STATE = -3, FULL = -4, NO = -5;
    public static final long LOST = -1000000000000000000L;

    private static final int GUESTS = 6, HOUSES = 3, SETS = 64;
    private static final int MOST_HUNGER = 20, MOST_FEINT = 9, MOST_PORTIONS = 9, A_PORTION = 2;
    private static final int MOST_SIGNS = 60, FIRST_SIGN = 33, LAST_SIGN = 126, HOUR = '.';
    private static final int POSSIBLE = 0, NOT_THERE = 1, THERE_ALREADY = 2, NOBODY_THERE = 3;
    private static final int MOST_TOGETHER = 4, FEINT_STEP = 3, FEINT_CHOICES = 3, MOST_ROWS = 81;
    private static final int MOST_HOURS = 5, MOST_ROUND = 999, RULES = 3;
    private static final int MOST_SIGHTS = 8, WORLD_HUNGERS = 6, MOST_NUMBER = 999999, TENTHS = 10;
    private static final int MOST_SEED = 9999, MOST_ACTS = 99, DRAW_MODULUS = 65537;
    private static final int TOLD_FEINT = 10;

    private final Book now = new Book();
    private final Book firstImage = new Book();
    private final Book secondImage = new Book();
    private final Pad pad = new Pad();
    private final Trial trial = new Trial();
    private final Feigning feigning = new Feigning();
    private final Worlds fitting = new Worlds();
    private final Seating seating = new Seating();
    private final Places places = new Places();

    public LeastHungry() {
    }

    // ---- 1 guests, nights

    public int guest(int guest, int hunger, int feint, int house) {
        if (!isWithin(guest, GUESTS - 1)) {
            return UNKNOWN;
        }
        if (!isWithin(hunger, MOST_HUNGER) || !isWithin(feint, MOST_FEINT) || !isHouse(house)) {
            return OUTSIDE;
        }
        return now.company.welcome(guest, hunger, feint, house);
    }

    public int leave(int guest) {
        if (!now.company.has(guest)) {
            return UNKNOWN;
        }
        now.endFeudsOf(guest);
        return now.company.dismiss(guest);
    }

    public int keen(int v) {
        if (!isWithin(v, MOST_FEINT)) {
            return OUTSIDE;
        }
        int before = now.company.keen;
        now.company.keen = v;
        return before;
    }

    public int feud(int guest, int other, boolean is) {
        if (!now.company.has(guest) || !now.company.has(other) || guest == other) {
            return UNKNOWN;
        }
        now.setFeud(guest, other, is);
        return now.countFeuds();
    }

    public int say(int sign) {
        if (sign < FIRST_SIGN || sign > LAST_SIGN) {
            return OUTSIDE;
        }
        return pad.add(sign);
    }

    public int wipe() {
        return pad.clear();
    }

    public int fault() {
        return pad.firstFault();
    }

    // ---- 2 nights

    public int judge(int what) {
        if (!isWithin(what, 1)) {
            return OUTSIDE;
        }
        if (pad.firstFault() != NONE) {
            return NO;
        }
        trial.play(pad, now.company, 0);
        return what == 0 ? trial.stoppedAt : trial.stoppedWhy;
    }

    public int done() {
        if (!trial.play(pad, now.company, 0)) {
            return NO;
        }
        now.company.become(trial.company);
        pad.clear();
        return trial.acts;
    }

    public int state(int guest, int what) {
        if (!now.company.has(guest)) {
            return UNKNOWN;
        }
        switch (what) {
            case 0:
                return at(now.company.hunger, guest);
            case 1:
                return now.company.shownBy(guest);
            case 2:
                return at(now.company.house, guest);
            default:
                return OUTSIDE;
        }
    }

    public int behind(int guest, int what) {
        if (!now.company.has(guest)) {
            return UNKNOWN;
        }
        if (!isWithin(what, 3)) {
            return OUTSIDE;
        }
        if (!trial.play(pad, now.company, 0)) {
            return NO;
        }
        switch (what) {
            case 0:
                return at(trial.company.hunger, guest);
            case 1:
                return at(trial.portions, guest);
            case 2:
                return at(trial.caught, guest);
            default:
                return at(trial.company.house, guest);
        }
    }

    public int waste(int what) {
        if (!isWithin(what, 2)) {
            return OUTSIDE;
        }
        if (!trial.play(pad, now.company, 0)) {
            return NO;
        }
        if (what == 0) {
            return trial.left;
        }
        return what == 1 ? trial.untouched : trial.company.starved();
    }

    public int served(int house, int p) {
        if (!isHouse(house)) {
            return UNKNOWN;
        }
        if (!isDish(p)) {
            return OUTSIDE;
        }
        return now.company.takers(house, p);
    }

    // ---- 3 feigning, rounds, rules

    public int feign(int guest, int p) {
        if (!now.company.has(guest)) {
            return UNKNOWN;
        }
        if (!isDish(p)) {
            return OUTSIDE;
        }
        return feigning.leastFeint(now.company, guest, p);
    }

    public int rests(int house, int p, int i) {
        if (!isHouse(house)) {
            return UNKNOWN;
        }
        if (!isDish(p)) {
            return OUTSIDE;
        }
        if (isCrowded(house)) {
            return FULL;
        }
        return feigning.rowsAtRest(now.company, house, p, i);
    }

    public int round(int guest, int m, int portions, int what) {
        if (!now.company.has(guest)) {
            return UNKNOWN;
        }
        if (!isWithin(m, MOST_HOURS) || !isWithin(portions, MOST_ROUND) || !isWithin(what, 1)) {
            return OUTSIDE;
        }
        int best = MOST_HUNGER + 1;
        int first = NONE;
        int ways = power(HOUSES, m);
        for (int way = 0; way < ways; way++) {
            int hunger = trial.walk(now.company, guest, m, portions, way);
            if (hunger < best) {
                best = hunger;
                first = m == 0 ? NONE : trial.firstStop();
            }
        }
        return what == 0 ? best : first;
    }

    public int rules(int house, int p, int rule, int what) {
        if (!isHouse(house)) {
            return UNKNOWN;
        }
        if (!isDish(p) || !isWithin(rule, RULES - 1) || !isWithin(what, 1)) {
            return OUTSIDE;
        }
        int inside = now.company.inside(house);
        int fed = places.servedByRule(now.company, house, p, rule);
        return what == 0 ? now.company.hungerLeft(inside, fed) : now.company.greatestLeft(inside, fed);
    }

    // ---- 4 worlds, places, seats

    public int seen(int p, int set) {
        if (!isDish(p) || !isWithin(set, SETS - 1)) {
            return OUTSIDE;
        }
        return now.addSight(p, set);
    }

    public int forget() {
        int before = now.sights;
        now.sights = 0;
        return before;
    }

    public int worlds(int guest, int what) {
        if (guest != -1 && !holds(now.company.inside(0), guest)) {
            return UNKNOWN;
        }
        if (!isWithin(what, 1)) {
            return OUTSIDE;
        }
        if (isCrowded(0)) {
            return FULL;
        }
        fitting.look(now);
        if (guest == -1) {
            return fitting.count;
        }
        return fitting.hungerOf(guest, what == 1);
    }

    public int tells(int what) {
        if (!isWithin(what, 1)) {
            return OUTSIDE;
        }
        if (isCrowded(0)) {
            return FULL;
        }
        fitting.look(now);
        if (fitting.count == 0) {
            return NONE;
        }
        int dish = fitting.tellingDish();
        return what == 0 ? dish : fitting.mostLeft(dish);
    }

    public int portions(int number, int what) {
        if (!isWithin(number, MOST_NUMBER) || !isWithin(what, 1)) {
            return OUTSIDE;
        }
        int gainer = places.firstGainer(now.company, number);
        if (what == 1) {
            return gainer;
        }
        return gainer == NONE ? 1 : 0;
    }

    public int seats(int house, int place) {
        if (!isHouse(house)) {
            return UNKNOWN;
        }
        int set = now.company.inside(house);
        seating.arrange(now.feuds, set);
        return place == -1 ? seating.rowsOf(set) : seating.whoSits(now.feuds, set, place);
    }

    public long belch(int guest, int p, int t, int part) {
        if (!now.company.has(guest)) {
            return LOST + UNKNOWN;
        }
        if (!isDish(p) || !isWithin(t, TENTHS) || !isWithin(part, 1)) {
            return LOST + OUTSIDE;
        }
        int feigners = now.company.feigners(at(now.company.house, guest));
        int upper = places.chances(now.company, guest, p, t);
        int lower = power(TENTHS, Integer.bitCount(feigners));
        return lowestTerm(upper, lower, part);
    }

    public int host() {
        if (!trial.play(pad, now.company, 0)) {
            return NO;
        }
        int starvedAnyway = trial.company.starved();
        for (int plate = MOST_PORTIONS; plate > 0; plate--) {
            trial.play(pad, now.company, plate);
            if ((trial.company.starved() & ~starvedAnyway) == 0) {
                return plate;
            }
        }
        return 0;
    }

    public int year(int seed, int m, int what) {
        if (!isWithin(seed, MOST_SEED) || m < 1 || m > MOST_ACTS || !isWithin(what, 2)) {
            return OUTSIDE;
        }
        trial.draw(now.company, seed, m);
        if (what == 0) {
            return trial.portionsOfAll();
        }
        return what == 1 ? trial.left : trial.company.hungerLeft(trial.company.there, 0);
    }

    public int image(int n) {
        if (!isWithin(n, 1)) {
            return OUTSIDE;
        }
        Book image = n == 0 ? firstImage : secondImage;
        image.become(now);
        image.isKept = true;
        return 1;
    }

    public int restore(int n) {
        if (!isWithin(n, 1)) {
            return OUTSIDE;
        }
        Book image = n == 0 ? firstImage : secondImage;
        if (!image.isKept) {
            return STATE;
        }
        now.become(image);
        return 1;
    }

    public int told(int what) {
        switch (what) {
            case 0:
                return pad.size;
            case 1:
                return now.company.there;
            case 2:
                return now.company.keen;
            case 3:
                return now.sights;
            case 4:
                return now.countFeuds();
            default:
                return toldFeint(what);
        }
    }

    // ---- what several calls ask

    private int toldFeint(int what) {
        if (!isWithin(what, TOLD_FEINT + GUESTS - 1) || !now.company.has(what - TOLD_FEINT)) {
            return OUTSIDE;
        }
        return at(now.company.feint, what - TOLD_FEINT);
    }

    private boolean isCrowded(int house) {
        return Integer.bitCount(now.company.inside(house)) > MOST_TOGETHER;
    }

    private static boolean isHouse(int house) {
        return isWithin(house, HOUSES - 1);
    }

    private static boolean isDish(int p) {
        return p >= 1 && p <= MOST_PORTIONS;
    }

    private static boolean isWithin(int value, int most) {
        return value >= 0 && value <= most;
    }

    private static boolean holds(int set, int guest) {
        return guest >= 0 && guest < GUESTS && (set >> guest & 1) == 1;
    }

    private static int at(int[] row, int i) {
        return i >= 0 && i < row.length ? row[i] : 0;
    }

    private static void put(int[] row, int i, int value) {
        if (i >= 0 && i < row.length) {
            row[i] = value;
        }
    }

    private static void copyRow(int[] from, int[] to) {
        System.arraycopy(from, 0, to, 0, Math.min(from.length, to.length));
    }

    private static int thoseWithAny(int[] row) {
        int set = 0;
        for (int g = 0; g < row.length; g++) {
            if (row[g] > 0) {
                set |= 1 << g;
            }
        }
        return set;
    }

    private static int power(int base, int times) {
        int product = 1;
        for (int i = 0; i < times; i++) {
            product *= base;
        }
        return product;
    }

    /**
     * Writes the digits of a number into the places of a set, the last place's the lowest:
     * so rising numbers go through the rows by letters.
     */
    private static void spread(int[] row, int set, int number, int base, int step) {
        int rest = number;
        for (int i = row.length - 1; i >= 0 && base > 0; i--) {
            if (holds(set, i)) {
                row[i] = rest % base * step;
                rest /= base;
            }
        }
    }

    /** How many of a set come ahead of a guest: who has less, of several the first by letters. */
    private static int placeOf(int guest, int[] measure, int set) {
        int own = at(measure, guest);
        int ahead = 0;
        for (int g = 0; g < measure.length; g++) {
            boolean isAhead = measure[g] < own || measure[g] == own && g < guest;
            if (isAhead && holds(set, g)) {
                ahead++;
            }
        }
        return ahead;
    }

    private static int firstBy(int[] measure, int set, int p) {
        int first = 0;
        for (int g = 0; g < measure.length; g++) {
            if (holds(set, g) && placeOf(g, measure, set) < p) {
                first |= 1 << g;
            }
        }
        return first;
    }

    /** The lower is a power of ten, so that 2 and 5 alone can go into both. */
    private static long lowestTerm(int upper, int lower, int part) {
        int up = upper;
        int low = lower;
        for (int i = 0; i < GUESTS; i++) {
            if (up % 2 == 0 && low % 2 == 0) {
                up /= 2;
                low /= 2;
            }
            if (up % 5 == 0 && low % 5 == 0) {
                up /= 5;
                low /= 5;
            }
        }
        return part == 0 ? up : low;
    }

    /** Who is there and how they are: now, in a trial, or in an image. */
    private static final class Company {
        final int[] hunger = new int[GUESTS];
        final int[] feint = new int[GUESTS];
        final int[] house = new int[GUESTS];
        final int[] shown = new int[GUESTS];
        int there;
        int keen = MOST_FEINT;

        void become(Company other) {
            copyRow(other.hunger, hunger);
            copyRow(other.feint, feint);
            copyRow(other.house, house);
            there = other.there;
            keen = other.keen;
        }

        int welcome(int guest, int hisHunger, int hisFeint, int hisHouse) {
            put(hunger, guest, hisHunger);
            put(feint, guest, hisFeint);
            put(house, guest, hisHouse);
            there |= 1 << guest;
            return Integer.bitCount(there);
        }

        int dismiss(int guest) {
            there &= ~(1 << guest);
            return Integer.bitCount(there);
        }

        boolean has(int guest) {
            return holds(there, guest);
        }

        int inside(int place) {
            int set = 0;
            for (int g = 0; g < house.length; g++) {
                if (house[g] == place && holds(there, g)) {
                    set |= 1 << g;
                }
            }
            return set;
        }

        int hungry(int place) {
            return inside(place) & thoseWithAny(hunger);
        }

        int feigners(int place) {
            return inside(place) & thoseWithAny(feint);
        }

        /** Of the hungry of a house; who is not hungry is never found out. */
        int foundOut(int hungry) {
            int set = 0;
            for (int g = 0; g < hunger.length; g++) {
                int countingFeint = hunger[g] - shownBy(g);
                if (countingFeint > keen && holds(hungry, g)) {
                    set |= 1 << g;
                }
            }
            return set;
        }

        int shownBy(int guest) {
            return Math.max(0, at(hunger, guest) - at(feint, guest));
        }

        int[] allShown() {
            for (int g = 0; g < shown.length; g++) {
                shown[g] = shownBy(g);
            }
            return shown;
        }

        int takers(int place, int p) {
            int hungry = hungry(place);
            return firstBy(allShown(), hungry & ~foundOut(hungry), p);
        }

        /** Into the place p of a row who is served by a dish of p: one order does for all dishes. */
        void takersOfEach(int place, int[] takers) {
            int hungry = hungry(place);
            int set = hungry & ~foundOut(hungry);
            allShown();
            Arrays.fill(takers, 0);
            for (int g = 0; g < GUESTS; g++) {
                if (holds(set, g)) {
                    for (int p = placeOf(g, shown, set) + 1; p < takers.length; p++) {
                        put(takers, p, at(takers, p) | 1 << g);
                    }
                }
            }
        }

        int leftBy(int guest, int fed) {
            int before = at(hunger, guest);
            return holds(fed, guest) ? Math.max(0, before - A_PORTION) : before;
        }

        void feed(int fed) {
            for (int g = 0; g < hunger.length; g++) {
                hunger[g] = leftBy(g, fed);
            }
        }

        void growHungrier(int guest) {
            put(hunger, guest, Math.min(MOST_HUNGER, at(hunger, guest) + 1));
        }

        void passHour() {
            for (int g = 0; g < GUESTS; g++) {
                growHungrier(g);
            }
        }

        int starved() {
            int set = 0;
            for (int g = 0; g < hunger.length; g++) {
                if (hunger[g] == MOST_HUNGER && holds(there, g)) {
                    set |= 1 << g;
                }
            }
            return set;
        }

        int hungerLeft(int set, int fed) {
            int sum = 0;
            for (int g = 0; g < GUESTS; g++) {
                sum += holds(set, g) ? leftBy(g, fed) : 0;
            }
            return sum;
        }

        int greatestLeft(int set, int fed) {
            int greatest = 0;
            for (int g = 0; g < GUESTS; g++) {
                greatest = Math.max(greatest, holds(set, g) ? leftBy(g, fed) : 0);
            }
            return greatest;
        }
    }

    /** All that an image keeps. */
    private static final class Book {
        final Company company = new Company();
        final int[] feuds = new int[GUESTS];
        final int[] sightDishes = new int[MOST_SIGHTS];
        final int[] sightSets = new int[MOST_SIGHTS];
        int sights;
        boolean isKept;

        void become(Book other) {
            company.become(other.company);
            copyRow(other.feuds, feuds);
            copyRow(other.sightDishes, sightDishes);
            copyRow(other.sightSets, sightSets);
            sights = other.sights;
        }

        void setFeud(int guest, int other, boolean is) {
            int ofGuest = at(feuds, guest) & ~(1 << other);
            int ofOther = at(feuds, other) & ~(1 << guest);
            put(feuds, guest, is ? ofGuest | 1 << other : ofGuest);
            put(feuds, other, is ? ofOther | 1 << guest : ofOther);
        }

        void endFeudsOf(int guest) {
            for (int g = 0; g < GUESTS; g++) {
                setFeud(guest, g, false);
            }
        }

        int countFeuds() {
            int ends = 0;
            for (int g = 0; g < feuds.length; g++) {
                ends += Integer.bitCount(feuds[g]);
            }
            return ends / 2;
        }

        int addSight(int p, int set) {
            if (sights >= MOST_SIGHTS) {
                return FULL;
            }
            put(sightDishes, sights, p);
            put(sightSets, sights, set);
            sights++;
            return sights;
        }

        /** Whether all sights are so, a row telling who is served by a dish of p at its place p. */
        boolean fits(int[] takers) {
            for (int i = 0; i < sights && i < MOST_SIGHTS; i++) {
                if (at(takers, at(sightDishes, i)) != at(sightSets, i)) {
                    return false;
                }
            }
            return true;
        }
    }

    /** The signs of a night. */
    private static final class Pad {
        final int[] signs = new int[MOST_SIGNS];
        int size;

        int add(int sign) {
            if (size >= MOST_SIGNS) {
                return FULL;
            }
            put(signs, size, sign);
            size++;
            return size;
        }

        int clear() {
            int before = size;
            size = 0;
            return before;
        }

        /** 0, which is no sign, where there is none. */
        int signAt(int i) {
            return i < size ? at(signs, i) : 0;
        }

        int firstFault() {
            for (int i = 0; i < size; i++) {
                int sign = signAt(i);
                if (sign == HOUR) {
                    continue;
                }
                if (!isHouseSign(sign) && !isGuestSign(sign)) {
                    return i;
                }
                i++;
                if (!canFollow(sign, signAt(i))) {
                    return i;
                }
            }
            return NONE;
        }

        static boolean canFollow(int sign, int next) {
            if (isHouseSign(sign)) {
                return next >= '1' && next <= '9';
            }
            return isHouseSign(next) || next >= '0' && next <= '9';
        }

        static boolean isHouseSign(int sign) {
            return sign >= 'a' && sign < 'a' + HOUSES;
        }

        static boolean isGuestSign(int sign) {
            return sign >= 'A' && sign < 'A' + GUESTS;
        }
    }

    /** Acts tried on a copy of the company, so that nothing is done in fact. */
    private static final class Trial {
        final Company company = new Company();
        final int[] portions = new int[GUESTS];
        final int[] caught = new int[GUESTS];
        final int[] stops = new int[MOST_HOURS];
        int left;
        int acts;
        int untouched;
        int stoppedAt;
        int stoppedWhy;

        void begin(Company from) {
            company.become(from);
            Arrays.fill(portions, 0);
            Arrays.fill(caught, 0);
            left = 0;
            acts = 0;
            untouched = NONE;
            stoppedAt = NONE;
            stoppedWhy = NONE;
        }

        /** Whether the night can be; it is played up to the first act that can not, the host eating so much of each dish. */
        boolean play(Pad pad, Company from, int plate) {
            begin(from);
            if (pad.firstFault() != NONE) {
                return false;
            }
            for (int i = 0; i < pad.size && stoppedAt == NONE; i++) {
                int sign = pad.signAt(i);
                int why = act(sign, pad.signAt(i + 1), plate);
                i += sign == HOUR ? 0 : 1;
                if (why == POSSIBLE) {
                    acts++;
                } else {
                    stoppedAt = acts;
                    stoppedWhy = why;
                }
            }
            return stoppedAt == NONE;
        }

        int act(int sign, int next, int plate) {
            if (sign == HOUR) {
                company.passHour();
                return POSSIBLE;
            }
            if (Pad.isHouseSign(sign)) {
                return bring(sign - 'a', Math.max(0, next - '0' - plate));
            }
            int guest = sign - 'A';
            return Pad.isHouseSign(next) ? go(guest, next - 'a') : pretend(guest, next - '0');
        }

        int go(int guest, int place) {
            if (!company.has(guest)) {
                return NOT_THERE;
            }
            if (at(company.house, guest) == place) {
                return THERE_ALREADY;
            }
            put(company.house, guest, place);
            company.growHungrier(guest);
            return POSSIBLE;
        }

        int pretend(int guest, int feint) {
            if (!company.has(guest)) {
                return NOT_THERE;
            }
            put(company.feint, guest, feint);
            return POSSIBLE;
        }

        int bring(int place, int p) {
            if (company.inside(place) == 0) {
                return NOBODY_THERE;
            }
            int fed = company.takers(place, p);
            count(portions, fed);
            count(caught, company.foundOut(company.hungry(place)));
            left += p - Integer.bitCount(fed);
            if (fed == 0 && untouched == NONE) {
                untouched = acts;
            }
            company.feed(fed);
            return POSSIBLE;
        }

        static void count(int[] row, int set) {
            for (int g = 0; g < row.length; g++) {
                row[g] += holds(set, g) ? 1 : 0;
            }
        }

        /** A round by one of the rows of houses, counted by letters: the hunger behind it. */
        int walk(Company from, int guest, int hours, int dishes, int way) {
            begin(from);
            spread(stops, (1 << hours) - 1, way, HOUSES, 1);
            for (int hour = 0; hour < hours; hour++) {
                go(guest, at(stops, hour));
                bringIfAny(0, dishes / 100);
                bringIfAny(1, dishes / 10 % 10);
                bringIfAny(2, dishes % 10);
                company.passHour();
            }
            return at(company.hunger, guest);
        }

        void bringIfAny(int place, int p) {
            if (p > 0) {
                bring(place, p);
            }
        }

        int firstStop() {
            return at(stops, 0);
        }

        void draw(Company from, int seed, int times) {
            begin(from);
            int x = seed;
            for (int i = 0; i < times; i++) {
                x = (75 * x + 74) % DRAW_MODULUS;
                actDrawn(x);
            }
        }

        void actDrawn(int x) {
            switch (x % 4) {
                case 0:
                    company.passHour();
                    break;
                case 1:
                    go(x / 4 % GUESTS, x / 32 % HOUSES);
                    break;
                case 2:
                    pretend(x / 4 % GUESTS, x / 32 % (MOST_FEINT + 1));
                    break;
                default:
                    bring(x / 64 % HOUSES, 1 + x / 4 % MOST_PORTIONS);
                    break;
            }
        }

        int portionsOfAll() {
            int sum = 0;
            for (int g = 0; g < portions.length; g++) {
                sum += portions[g];
            }
            return sum;
        }
    }

    /** What a guest had best show, on a copy of the company. */
    private static final class Feigning {
        final Company company = new Company();
        /** By a row of feints and a guest: what he has by it. */
        final int[] worths = new int[MOST_ROWS * GUESTS];

        int leastFeint(Company from, int guest, int p) {
            company.become(from);
            int place = at(company.house, guest);
            for (int feint = 0; feint <= MOST_FEINT; feint++) {
                put(company.feint, guest, feint);
                if (holds(company.takers(place, p), guest)) {
                    return feint;
                }
            }
            return NONE;
        }

        /** How many rows are at rest (wanted is -1), or the wanted one. */
        int rowsAtRest(Company from, int place, int p, int wanted) {
            company.become(from);
            int set = company.inside(place);
            int rows = power(FEINT_CHOICES, Integer.bitCount(set));
            for (int row = 0; row < rows; row++) {
                spread(company.feint, set, row, FEINT_CHOICES, FEINT_STEP);
                noteWorths(row, company.takers(place, p));
            }
            int found = 0;
            for (int row = 0; row < rows; row++) {
                if (isAtRest(set, row)) {
                    if (found == wanted) {
                        return digitsOf(set, row);
                    }
                    found++;
                }
            }
            return wanted == -1 ? found : NONE;
        }

        void noteWorths(int row, int fed) {
            for (int g = 0; g < GUESTS; g++) {
                int eaten = at(company.hunger, g) - company.leftBy(g, fed);
                put(worths, row * GUESTS + g, eaten - at(company.feint, g) / FEINT_STEP);
            }
        }

        /** The last guest's feint is the lowest digit of the row's number, as spread() writes it. */
        boolean isAtRest(int set, int row) {
            int rest = row;
            int step = 1;
            for (int g = GUESTS - 1; g >= 0; g--) {
                if (holds(set, g)) {
                    int base = row - rest % FEINT_CHOICES * step;
                    for (int choice = 0; choice < FEINT_CHOICES; choice++) {
                        if (worth(base + choice * step, g) > worth(row, g)) {
                            return false;
                        }
                    }
                    rest /= FEINT_CHOICES;
                    step *= FEINT_CHOICES;
                }
            }
            return true;
        }

        int worth(int row, int guest) {
            return at(worths, row * GUESTS + guest);
        }

        int digitsOf(int set, int row) {
            spread(company.feint, set, row, FEINT_CHOICES, FEINT_STEP);
            int number = 0;
            for (int g = 0; g < GUESTS; g++) {
                if (holds(set, g)) {
                    number = number * 10 + at(company.feint, g);
                }
            }
            return number;
        }
    }

    /** The rows of hungers by which all sights are so. */
    private static final class Worlds {
        final Company company = new Company();
        final int[] takers = new int[MOST_PORTIONS + 1];
        final int[] least = new int[GUESTS];
        final int[] greatest = new int[GUESTS];
        final int[] tally = new int[(MOST_PORTIONS + 1) * SETS];
        int count;

        void look(Book book) {
            company.become(book.company);
            Arrays.fill(least, MOST_HUNGER);
            Arrays.fill(greatest, 0);
            Arrays.fill(tally, 0);
            count = 0;
            int set = company.inside(0);
            int rows = power(WORLD_HUNGERS, Integer.bitCount(set));
            for (int row = 0; row < rows; row++) {
                spread(company.hunger, set, row, WORLD_HUNGERS, 1);
                company.takersOfEach(0, takers);
                if (book.fits(takers)) {
                    addWorld();
                }
            }
        }

        void addWorld() {
            count++;
            for (int g = 0; g < GUESTS; g++) {
                int hunger = at(company.hunger, g);
                put(least, g, Math.min(at(least, g), hunger));
                put(greatest, g, Math.max(at(greatest, g), hunger));
            }
            for (int p = 1; p < takers.length; p++) {
                int cell = p * SETS + takers[p];
                put(tally, cell, at(tally, cell) + 1);
            }
        }

        int hungerOf(int guest, boolean isGreatest) {
            if (count == 0) {
                return NONE;
            }
            return isGreatest ? at(greatest, guest) : at(least, guest);
        }

        int mostLeft(int p) {
            int most = 0;
            for (int set = 0; set < SETS; set++) {
                most = Math.max(most, at(tally, p * SETS + set));
            }
            return most;
        }

        int tellingDish() {
            int best = 1;
            for (int p = 2; p <= MOST_PORTIONS; p++) {
                if (mostLeft(p) < mostLeft(best)) {
                    best = p;
                }
            }
            return best;
        }
    }

    /** Who comes at which place, by what is not always SHOWN. */
    private static final class Places {
        final int[] measure = new int[GUESTS];

        int servedByRule(Company company, int place, int p, int rule) {
            if (rule == 0) {
                return company.takers(place, p);
            }
            for (int g = 0; g < measure.length; g++) {
                measure[g] = rule == 1 ? 0 : -at(company.hunger, g);
            }
            return firstBy(measure, company.hungry(place), p);
        }

        int firstGainer(Company company, int number) {
            int set = company.hungry(0);
            copyRow(company.hunger, measure);
            for (int g = 0; g < GUESTS; g++) {
                if (holds(set, g) && gains(g, set, number)) {
                    return g;
                }
            }
            return NONE;
        }

        boolean gains(int guest, int set, int number) {
            int hunger = at(measure, guest);
            int own = digitAt(number, placeOf(guest, measure, set));
            int most = own;
            for (int feint = 1; feint <= MOST_FEINT; feint++) {
                put(measure, guest, Math.max(0, hunger - feint));
                most = Math.max(most, digitAt(number, placeOf(guest, measure, set)));
            }
            put(measure, guest, hunger);
            return most > own;
        }

        static int digitAt(int number, int place) {
            int rest = number;
            for (int i = place + 1; i < GUESTS; i++) {
                rest /= 10;
            }
            return rest % 10;
        }

        /** Of the powers of ten that all feigners make together, so many by which the guest is served. */
        int chances(Company company, int guest, int p, int t) {
            int place = at(company.house, guest);
            int feigners = company.feigners(place);
            int hungry = company.hungry(place);
            int sum = 0;
            for (int caught = 0; caught < SETS && holds(hungry, guest); caught++) {
                if ((caught & ~feigners) == 0) {
                    showAll(company, caught);
                    sum += placeOf(guest, measure, hungry) < p ? weight(feigners, caught, t) : 0;
                }
            }
            return sum;
        }

        void showAll(Company company, int caught) {
            for (int g = 0; g < measure.length; g++) {
                measure[g] = holds(caught, g) ? at(company.hunger, g) : company.shownBy(g);
            }
        }

        static int weight(int feigners, int caught, int t) {
            int missed = Integer.bitCount(feigners & ~caught);
            return power(t, Integer.bitCount(caught)) * power(TENTHS - t, missed);
        }
    }

    /** Rows in which no two with a feud sit side by side. */
    private static final class Seating {
        /** By a set and a guest of it: rows of just that set that begin with him. */
        final int[] ways = new int[SETS * GUESTS];

        void arrange(int[] feuds, int set) {
            for (int part = 1; part < SETS; part++) {
                if ((part & ~set) == 0) {
                    arrangePart(feuds, part);
                }
            }
        }

        void arrangePart(int[] feuds, int part) {
            for (int g = 0; g < GUESTS; g++) {
                if (holds(part, g)) {
                    int others = part & ~(1 << g);
                    put(ways, part * GUESTS + g, others == 0 ? 1 : rowsBeginning(others, at(feuds, g)));
                }
            }
        }

        int rowsBeginning(int set, int foes) {
            int sum = 0;
            for (int g = 0; g < GUESTS; g++) {
                sum += holds(set & ~foes, g) ? at(ways, set * GUESTS + g) : 0;
            }
            return sum;
        }

        int rowsOf(int set) {
            return set == 0 ? 1 : rowsBeginning(set, 0);
        }

        int whoSits(int[] feuds, int set, int place) {
            if (place < 0 || place >= Integer.bitCount(set) || rowsOf(set) == 0) {
                return NONE;
            }
            int rest = set;
            int foes = 0;
            int sitter = NONE;
            for (int i = 0; i <= place && i < GUESTS; i++) {
                sitter = firstSitter(rest, foes);
                foes = at(feuds, sitter);
                rest &= ~(1 << sitter);
            }
            return sitter;
        }

        int firstSitter(int rest, int foes) {
            for (int g = 0; g < GUESTS; g++) {
                if (holds(rest & ~foes, g) && at(ways, rest * GUESTS + g) > 0) {
                    return g;
                }
            }
            return NONE;
        }
    }
}
