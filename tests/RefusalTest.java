import java.util.ArrayList;
import java.util.Arrays;
import java.util.List;

/**
 * Every call with every mix of good and wrong numbers, on tables of several states: it answers the first
 * refusal that fits, and what is refused changes nothing.
 */
public final class RefusalTest {
    static final int NONE = -6, UNKNOWN = -1, OUTSIDE = -2, STATE = -3, FULL = -4, NO = -5, FITS = 1;
    static final long LOST = -1000000000000000000L;
    static final int LOW = Integer.MIN_VALUE, HIGH = Integer.MAX_VALUE;

    static int wrong = 0;
    static int calls = 0;

    interface Face {
        long call(LeastHungry x, int[] a);
    }

    /** A number that a call takes: what is good, what is not, and what the call then answers. */
    static final class Number {
        final int refusal;
        final int[] good, bad;

        Number(int refusal, int[] good, int[] bad) {
            this.refusal = refusal;
            this.good = good;
            this.bad = bad;
        }
    }

    static Number between(int refusal, int low, int high) {
        return new Number(refusal, new int[] {low, high}, new int[] {low - 1, high + 1, LOW, HIGH, high + 256});
    }

    static Number outside(int low, int high) {
        return between(OUTSIDE, low, high);
    }

    /** A and F are there, D is not; 32 and -27 would be A and F again, if bits went round. */
    static Number guest() {
        return new Number(UNKNOWN, new int[] {0, 5}, new int[] {-1, 6, 3, 32, 37, -27, LOW, HIGH});
    }

    static Number house() {
        return between(UNKNOWN, 0, 2);
    }

    static Number any() {
        return new Number(FITS, new int[] {-2, -1, 0, 6, LOW, HIGH}, new int[0]);
    }

    enum Table {
        PLAIN, CAN_NOT_BE, FAULTY, CROWDED
    }

    static void say(LeastHungry x, String night) {
        for (int i = 0; i < night.length(); i++) {
            x.say(night.charAt(i));
        }
    }

    /** In CROWDED all that can be full is full. */
    static LeastHungry laid(Table table) {
        LeastHungry x = new LeastHungry();
        x.guest(0, 5, 4, 0);
        x.guest(1, 3, 0, 0);
        x.guest(5, 20, 9, 1);
        x.feud(0, 1, true);
        x.seen(1, 1);
        x.keen(3);
        x.image(0);
        x.guest(0, 4, 2, 0);
        x.keen(7);
        x.seen(2, 3);
        x.feud(1, 5, true);
        if (table == Table.PLAIN) {
            say(x, "a1.F8Ab");
        } else if (table == Table.CAN_NOT_BE) {
            say(x, ".a1Aa");
        } else if (table == Table.FAULTY) {
            say(x, ".a1A");
        } else {
            crowd(x);
        }
        return x;
    }

    static void crowd(LeastHungry x) {
        x.guest(2, 1, 0, 0);
        x.guest(4, 6, 7, 0);
        x.guest(5, 9, 9, 0);
        for (int i = x.told(3); i < 8; i++) {
            x.seen(9, 63);
        }
        for (int i = 0; i < 60; i++) {
            x.say('.');
        }
    }

    /** All that can be read of an object, and of what its images bring back. */
    static long[] read(LeastHungry x) {
        List<Long> all = new ArrayList<>();
        readState(x, all);
        readWorlds(x, all);
        all.add((long) x.fault());
        all.add((long) x.judge(0));
        all.add((long) x.judge(1));
        all.add((long) x.done());
        readState(x, all);
        for (int n = 0; n <= 1; n++) {
            all.add((long) x.restore(n));
            readState(x, all);
            readWorlds(x, all);
        }
        return all.stream().mapToLong(n -> n).toArray();
    }

    static void readState(LeastHungry x, List<Long> all) {
        for (int what : new int[] {0, 1, 2, 3, 4, 10, 11, 12, 13, 14, 15}) {
            all.add((long) x.told(what));
        }
        for (int g = 0; g < 6; g++) {
            for (int what = 0; what <= 2; what++) {
                all.add((long) x.state(g, what));
            }
        }
        for (int place = -1; place < 6; place++) {
            all.add((long) x.seats(0, place));
        }
    }

    static void readWorlds(LeastHungry x, List<Long> all) {
        all.add((long) x.worlds(-1, 0));
        for (int what = 0; what <= 1; what++) {
            all.add((long) x.worlds(0, what));
            all.add((long) x.worlds(1, what));
        }
    }

    /** All mixes of one good or bad number for each; what the table itself refuses, if all are good. */
    static void every(String name, Face face, int[] byTable, Number... numbers) {
        int[] chosen = new int[numbers.length];
        mix(name, face, byTable, numbers, chosen, 0, FITS);
    }

    static void mix(String name, Face face, int[] byTable, Number[] numbers, int[] chosen, int k, int refusal) {
        if (k == numbers.length) {
            for (Table table : Table.values()) {
                int due = refusal != FITS ? refusal : byTable[table.ordinal()];
                tryOn(table, name, face, chosen, due);
            }
            return;
        }
        for (int good : numbers[k].good) {
            chosen[k] = good;
            mix(name, face, byTable, numbers, chosen, k + 1, refusal);
        }
        for (int bad : numbers[k].bad) {
            chosen[k] = bad;
            int first = refusal == UNKNOWN || numbers[k].refusal == UNKNOWN ? UNKNOWN : OUTSIDE;
            mix(name, face, byTable, numbers, chosen, k + 1, first);
        }
    }

    static void tryOn(Table table, String name, Face face, int[] chosen, int due) {
        LeastHungry x = laid(table);
        long got = face.call(x, chosen);
        calls++;
        String call = table + ": " + name + Arrays.toString(chosen);
        if (due == FITS) {
            must(got >= 0 || got == NONE, call + " answered " + got + ", nothing is to be refused");
            return;
        }
        must(got == (name.equals("belch") ? LOST + due : due), call + " answered " + got + ", due is " + due);
        must(Arrays.equals(read(x), untouched[table.ordinal()]), call + " was refused, but changed something");
    }

    static void must(boolean is, String what) {
        if (!is) {
            wrong++;
            if (wrong <= 40) {
                System.out.println(what);
            }
        }
    }

    static final long[][] untouched = new long[Table.values().length][];

    static final int[] NEVER = {FITS, FITS, FITS, FITS};
    static final int[] IF_NIGHT_CAN_NOT_BE = {FITS, NO, NO, FITS};
    static final int[] IF_FAULT = {FITS, FITS, NO, FITS};
    static final int[] IF_FULL = {FITS, FITS, FITS, FULL};

    public static void main(String[] args) {
        for (Table table : Table.values()) {
            untouched[table.ordinal()] = read(laid(table));
        }
        nights();
        dishes();
        rest();
        must(calls > 10000, "only " + calls + " calls were tried");
        System.out.println(wrong == 0 ? "all refusals are as due" : wrong + " refusals are not as due");
        if (wrong != 0) {
            System.exit(1);
        }
    }

    static void nights() {
        every("guest", (x, a) -> x.guest(a[0], a[1], a[2], a[3]), NEVER,
                between(UNKNOWN, 0, 5), outside(0, 20), outside(0, 9), outside(0, 2));
        every("leave", (x, a) -> x.leave(a[0]), NEVER, guest());
        every("keen", (x, a) -> x.keen(a[0]), NEVER, outside(0, 9));
        Number first = new Number(UNKNOWN, new int[] {0}, new int[] {-1, 6, 3, 32, LOW, HIGH});
        Number second = new Number(UNKNOWN, new int[] {5, 1}, new int[] {-1, 6, 3, 37, LOW, HIGH, 0});
        every("feud true", (x, a) -> x.feud(a[0], a[1], true), NEVER, first, second);
        every("feud false", (x, a) -> x.feud(a[0], a[1], false), NEVER, first, second);
        every("feud back", (x, a) -> x.feud(a[1], a[0], true), NEVER, first, second);
        every("say", (x, a) -> x.say(a[0]), IF_FULL, outside(33, 126));
        every("wipe", (x, a) -> x.wipe(), NEVER);
        every("judge", (x, a) -> x.judge(a[0]), IF_FAULT, outside(0, 1));
        every("done", (x, a) -> x.done(), IF_NIGHT_CAN_NOT_BE);
        every("state", (x, a) -> x.state(a[0], a[1]), NEVER, guest(), outside(0, 2));
        every("behind", (x, a) -> x.behind(a[0], a[1]), IF_NIGHT_CAN_NOT_BE, guest(), outside(0, 3));
        every("waste", (x, a) -> x.waste(a[0]), IF_NIGHT_CAN_NOT_BE, outside(0, 2));
        every("host", (x, a) -> x.host(), IF_NIGHT_CAN_NOT_BE);
    }

    static void dishes() {
        Number p = outside(1, 9);
        every("served", (x, a) -> x.served(a[0], a[1]), NEVER, house(), p);
        every("feign", (x, a) -> x.feign(a[0], a[1]), NEVER, guest(), p);
        Number crowded = new Number(UNKNOWN, new int[] {0}, house().bad);
        Number others = new Number(UNKNOWN, new int[] {1, 2}, house().bad);
        every("rests", (x, a) -> x.rests(a[0], a[1], a[2]), IF_FULL, crowded, p, any());
        every("rests", (x, a) -> x.rests(a[0], a[1], a[2]), NEVER, others, p, any());
        every("round", (x, a) -> x.round(a[0], a[1], a[2], a[3]), NEVER, guest(), outside(0, 5), outside(0, 999), outside(0, 1));
        every("rules", (x, a) -> x.rules(a[0], a[1], a[2], a[3]), NEVER, house(), p, outside(0, 2), outside(0, 1));
        every("belch", (x, a) -> x.belch(a[0], a[1], a[2], a[3]), NEVER, guest(), p, outside(0, 10), outside(0, 1));
    }

    static void rest() {
        every("seen", (x, a) -> x.seen(a[0], a[1]), IF_FULL, outside(1, 9), outside(0, 63));
        every("forget", (x, a) -> x.forget(), NEVER);
        Number inHouseA = new Number(UNKNOWN, new int[] {-1, 0, 1}, new int[] {-2, 6, 3, 32, LOW, HIGH});
        every("worlds", (x, a) -> x.worlds(a[0], a[1]), IF_FULL, inHouseA, outside(0, 1));
        every("tells", (x, a) -> x.tells(a[0]), IF_FULL, outside(0, 1));
        every("portions", (x, a) -> x.portions(a[0], a[1]), NEVER, outside(0, 999999), outside(0, 1));
        every("seats", (x, a) -> x.seats(a[0], a[1]), NEVER, house(), any());
        every("year", (x, a) -> x.year(a[0], a[1], a[2]), NEVER, outside(0, 9999), outside(1, 99), outside(0, 2));
        every("image", (x, a) -> x.image(a[0]), NEVER, outside(0, 1));
        Number kept = new Number(OUTSIDE, new int[] {0}, outside(0, 1).bad);
        every("restore", (x, a) -> x.restore(a[0]), NEVER, kept);
        Number notKept = new Number(OUTSIDE, new int[] {1}, outside(0, 1).bad);
        every("restore", (x, a) -> x.restore(a[0]), new int[] {STATE, STATE, STATE, STATE}, notKept);
        Number told = new Number(OUTSIDE, new int[] {0, 1, 2, 3, 4, 10, 11, 15}, new int[] {-1, 5, 6, 7, 8, 9, 13, 16, 42, 266, LOW, HIGH});
        every("told", (x, a) -> x.told(a[0]), NEVER, told);
    }
}
