import java.math.BigInteger;
import java.util.ArrayList;
import java.util.Comparator;
import java.util.HashMap;
import java.util.HashSet;
import java.util.List;
import java.util.Map;
import java.util.Random;
import java.util.Set;
import java.util.TreeMap;
import java.util.TreeSet;
import java.util.regex.Pattern;

/** Drawn runs of calls, each answer held against a second, slow telling of the document. */
public final class ModelTest {
    static final int NONE = -6, UNKNOWN = -1, OUTSIDE = -2, STATE = -3, FULL = -4, NO = -5;
    static final long LOST = -1000000000000000000L;
    static final int OBJECTS = 300, CALLS = 512, MOST_OF_A_STEP = 32, SHOWN_FAULTS = 20;

    static int wrong = 0;

    static final class Guest {
        int hunger, feint, house;

        Guest(int hunger, int feint, int house) {
            this.hunger = hunger;
            this.feint = feint;
            this.house = house;
        }

        int counting() {
            return feint < hunger ? feint : hunger;
        }

        int shown() {
            return hunger - counting();
        }
    }

    static final class Table {
        final TreeMap<Integer, Guest> guests = new TreeMap<>();
        int keen = 9;

        Table copy() {
            Table copy = new Table();
            copy.keen = keen;
            guests.forEach((n, g) -> copy.guests.put(n, new Guest(g.hunger, g.feint, g.house)));
            return copy;
        }

        List<Integer> in(int house) {
            List<Integer> list = new ArrayList<>();
            guests.forEach((n, g) -> {
                if (g.house == house) {
                    list.add(n);
                }
            });
            return list;
        }

        List<Integer> caught(int house) {
            List<Integer> list = new ArrayList<>(in(house));
            list.removeIf(n -> guests.get(n).hunger == 0 || guests.get(n).counting() <= keen);
            return list;
        }

        List<Integer> eat(int house, int portions) {
            List<Integer> line = new ArrayList<>(in(house));
            line.removeAll(caught(house));
            line.removeIf(n -> guests.get(n).hunger == 0);
            List<Integer> served = new ArrayList<>();
            while (served.size() < portions && !line.isEmpty()) {
                Integer next = line.get(0);
                for (Integer n : line) {
                    if (guests.get(n).shown() < guests.get(next).shown()) {
                        next = n;
                    }
                }
                line.remove(next);
                served.add(next);
            }
            for (Integer n : served) {
                guests.get(n).hunger = Math.max(0, guests.get(n).hunger - 2);
            }
            return served;
        }

        void hour() {
            guests.values().forEach(g -> g.hunger = Math.min(20, g.hunger + 1));
        }

        void go(int guest, int house) {
            Guest g = guests.get(guest);
            g.house = house;
            g.hunger = Math.min(20, g.hunger + 1);
        }

        int starved() {
            int bits = 0;
            for (Map.Entry<Integer, Guest> e : guests.entrySet()) {
                bits |= e.getValue().hunger == 20 ? 1 << e.getKey() : 0;
            }
            return bits;
        }
    }

    static int bits(Iterable<Integer> list) {
        int bits = 0;
        for (Integer n : list) {
            bits |= 1 << n;
        }
        return bits;
    }

    /** What a night came to. */
    static final class Behind {
        Table table;
        int acts, left, untouched = NONE, bad = NONE, why = NONE;
        final Map<Integer, Integer> eaten = new HashMap<>(), caught = new HashMap<>();
    }

    static final class Model {
        Table table = new Table();
        Set<Set<Integer>> feuds = new HashSet<>();
        List<int[]> sights = new ArrayList<>();
        String pad = "";
        final Model[] images = new Model[2];

        boolean isThere(int guest) {
            return table.guests.containsKey(guest);
        }

        static boolean in(int v, int low, int high) {
            return low <= v && v <= high;
        }

        int guest(int guest, int hunger, int feint, int house) {
            if (!in(guest, 0, 5)) return UNKNOWN;
            if (!in(hunger, 0, 20) || !in(feint, 0, 9) || !in(house, 0, 2)) return OUTSIDE;
            table.guests.put(guest, new Guest(hunger, feint, house));
            return table.guests.size();
        }

        int leave(int guest) {
            if (table.guests.remove(guest) == null) return UNKNOWN;
            feuds.removeIf(two -> two.contains(guest));
            return table.guests.size();
        }

        int keen(int v) {
            if (!in(v, 0, 9)) return OUTSIDE;
            int was = table.keen;
            table.keen = v;
            return was;
        }

        int feud(int guest, int other, boolean is) {
            if (!isThere(guest) || !isThere(other) || guest == other) return UNKNOWN;
            if (is) {
                feuds.add(Set.of(guest, other));
            } else {
                feuds.remove(Set.of(guest, other));
            }
            return feuds.size();
        }

        int say(int sign) {
            if (!in(sign, 33, 126)) return OUTSIDE;
            if (pad.length() == 60) return FULL;
            pad += (char) sign;
            return pad.length();
        }

        int wipe() {
            int was = pad.length();
            pad = "";
            return was;
        }

        static final Pattern WHOLE = Pattern.compile("(\\.|[abc][1-9]|[A-F][abc0-9])*");
        static final Pattern BEGUN = Pattern.compile("(\\.|[abc][1-9]|[A-F][abc0-9])*[abcA-F]?");

        int fault() {
            if (WHOLE.matcher(pad).matches()) return NONE;
            for (int i = 0; i < pad.length(); i++) {
                if (!BEGUN.matcher(pad.substring(0, i + 1)).matches()) return i;
            }
            return pad.length();
        }

        Behind night(int plate) {
            Behind b = new Behind();
            b.table = table.copy();
            int i = 0;
            while (i < pad.length() && b.bad == NONE) {
                char c = pad.charAt(i);
                String act = c == '.' ? "." : pad.substring(i, i + 2);
                int why = act(b, act, plate);
                if (why != 0) {
                    b.bad = b.acts;
                    b.why = why;
                }
                b.acts++;
                i += act.length();
            }
            return b;
        }

        static int act(Behind b, String act, int plate) {
            if (act.equals(".")) {
                b.table.hour();
                return 0;
            }
            char first = act.charAt(0), second = act.charAt(1);
            if (Character.isUpperCase(first)) {
                int guest = first - 'A';
                if (!b.table.guests.containsKey(guest)) return 1;
                if (Character.isDigit(second)) {
                    b.table.guests.get(guest).feint = second - '0';
                    return 0;
                }
                if (b.table.guests.get(guest).house == second - 'a') return 2;
                b.table.go(guest, second - 'a');
                return 0;
            }
            int house = first - 'a', p = Math.max(0, second - '0' - plate);
            if (b.table.in(house).isEmpty()) return 3;
            for (Integer n : b.table.caught(house)) {
                b.caught.merge(n, 1, Integer::sum);
            }
            List<Integer> served = b.table.eat(house, p);
            for (Integer n : served) {
                b.eaten.merge(n, 1, Integer::sum);
            }
            b.left += p - served.size();
            if (served.isEmpty() && b.untouched == NONE) b.untouched = b.acts;
            return 0;
        }

        int judge(int what) {
            if (!in(what, 0, 1)) return OUTSIDE;
            if (fault() != NONE) return NO;
            Behind b = night(0);
            return what == 0 ? b.bad : b.why;
        }

        boolean canNot() {
            return fault() != NONE || night(0).bad != NONE;
        }

        int done() {
            if (canNot()) return NO;
            Behind b = night(0);
            table = b.table;
            pad = "";
            return b.acts;
        }

        int state(int guest, int what) {
            if (!isThere(guest)) return UNKNOWN;
            if (!in(what, 0, 2)) return OUTSIDE;
            Guest g = table.guests.get(guest);
            return new int[] {g.hunger, g.shown(), g.house}[what];
        }

        int behind(int guest, int what) {
            if (!isThere(guest)) return UNKNOWN;
            if (!in(what, 0, 3)) return OUTSIDE;
            if (canNot()) return NO;
            Behind b = night(0);
            Guest g = b.table.guests.get(guest);
            return new int[] {g.hunger, b.eaten.getOrDefault(guest, 0), b.caught.getOrDefault(guest, 0), g.house}[what];
        }

        int waste(int what) {
            if (!in(what, 0, 2)) return OUTSIDE;
            if (canNot()) return NO;
            Behind b = night(0);
            return new int[] {b.left, b.untouched, b.table.starved()}[what];
        }

        int served(int house, int p) {
            if (!in(house, 0, 2)) return UNKNOWN;
            if (!in(p, 1, 9)) return OUTSIDE;
            return bits(table.copy().eat(house, p));
        }

        int feign(int guest, int p) {
            if (!isThere(guest)) return UNKNOWN;
            if (!in(p, 1, 9)) return OUTSIDE;
            for (int f = 0; f <= 9; f++) {
                Table t = table.copy();
                t.guests.get(guest).feint = f;
                if (t.eat(t.guests.get(guest).house, p).contains(guest)) return f;
            }
            return NONE;
        }

        static int worth(Table from, int guest, int house, int p) {
            Table t = from.copy();
            int before = t.guests.get(guest).hunger;
            t.eat(house, p);
            return before - t.guests.get(guest).hunger - t.guests.get(guest).feint / 3;
        }

        static boolean isAtRest(Table t, List<Integer> who, int house, int p) {
            for (Integer n : who) {
                int own = worth(t, n, house, p);
                for (int f = 0; f <= 6; f += 3) {
                    Table other = t.copy();
                    other.guests.get(n).feint = f;
                    if (worth(other, n, house, p) > own) return false;
                }
            }
            return true;
        }

        int rests(int house, int p, int i) {
            if (!in(house, 0, 2)) return UNKNOWN;
            if (!in(p, 1, 9)) return OUTSIDE;
            List<Integer> who = table.in(house);
            if (who.size() > 4) return FULL;
            TreeSet<Integer> rows = new TreeSet<>();
            for (int number = 0; number <= 6666; number++) {
                String digits = String.format("%04d", number).substring(4 - who.size());
                if (digits.matches("[036]*") && number < Math.pow(10, who.size())) {
                    Table t = table.copy();
                    for (int k = 0; k < who.size(); k++) {
                        t.guests.get(who.get(k)).feint = digits.charAt(k) - '0';
                    }
                    if (isAtRest(t, who, house, p)) rows.add(number);
                }
            }
            if (i == -1) return rows.size();
            return i >= 0 && i < rows.size() ? new ArrayList<>(rows).get(i) : NONE;
        }

        int round(int guest, int m, int portions, int what) {
            if (!isThere(guest)) return UNKNOWN;
            if (!in(m, 0, 5) || !in(portions, 0, 999) || !in(what, 0, 1)) return OUTSIDE;
            int[] best = {Integer.MAX_VALUE, NONE};
            walk(table, guest, m, portions, NONE, best);
            return best[what];
        }

        static void walk(Table t, int guest, int hours, int portions, int first, int[] best) {
            if (hours == 0) {
                if (t.guests.get(guest).hunger < best[0]) {
                    best[0] = t.guests.get(guest).hunger;
                    best[1] = first;
                }
                return;
            }
            for (int house = 0; house < 3; house++) {
                Table next = t.copy();
                if (next.guests.get(guest).house != house) next.go(guest, house);
                String digits = String.format("%03d", portions);
                for (int h = 0; h < 3; h++) {
                    next.eat(h, digits.charAt(h) - '0');
                }
                next.hour();
                walk(next, guest, hours - 1, portions, first == NONE ? house : first, best);
            }
        }

        int rules(int house, int p, int rule, int what) {
            if (!in(house, 0, 2)) return UNKNOWN;
            if (!in(p, 1, 9) || !in(rule, 0, 2) || !in(what, 0, 1)) return OUTSIDE;
            Table t = table.copy();
            List<Integer> who = t.in(house);
            if (rule == 0) {
                t.eat(house, p);
            } else {
                List<Integer> line = new ArrayList<>(who);
                line.removeIf(n -> t.guests.get(n).hunger == 0);
                if (rule == 2) line.sort(Comparator.comparingInt(n -> -t.guests.get(n).hunger));
                for (int k = 0; k < p && k < line.size(); k++) {
                    Guest g = t.guests.get(line.get(k));
                    g.hunger = Math.max(0, g.hunger - 2);
                }
            }
            return what == 0 ? who.stream().mapToInt(n -> t.guests.get(n).hunger).sum()
                    : who.stream().mapToInt(n -> t.guests.get(n).hunger).max().orElse(0);
        }

        int seen(int p, int set) {
            if (!in(p, 1, 9) || !in(set, 0, 63)) return OUTSIDE;
            if (sights.size() == 8) return FULL;
            sights.add(new int[] {p, set});
            return sights.size();
        }

        int forget() {
            int was = sights.size();
            sights = new ArrayList<>();
            return was;
        }

        List<Table> fitting() {
            List<Table> all = List.of(table.copy());
            for (Integer n : table.in(0)) {
                List<Table> more = new ArrayList<>();
                for (Table t : all) {
                    for (int h = 0; h <= 5; h++) {
                        Table next = t.copy();
                        next.guests.get(n).hunger = h;
                        more.add(next);
                    }
                }
                all = more;
            }
            List<Table> fit = new ArrayList<>();
            for (Table t : all) {
                if (sights.stream().allMatch(s -> bits(t.copy().eat(0, s[0])) == s[1])) fit.add(t);
            }
            return fit;
        }

        int worlds(int guest, int what) {
            if (guest != -1 && !table.in(0).contains(guest)) return UNKNOWN;
            if (!in(what, 0, 1)) return OUTSIDE;
            if (table.in(0).size() > 4) return FULL;
            List<Table> fit = fitting();
            if (guest == -1) return fit.size();
            TreeSet<Integer> hungers = new TreeSet<>();
            fit.forEach(t -> hungers.add(t.guests.get(guest).hunger));
            if (hungers.isEmpty()) return NONE;
            return what == 0 ? hungers.first() : hungers.last();
        }

        int tells(int what) {
            if (!in(what, 0, 1)) return OUTSIDE;
            if (table.in(0).size() > 4) return FULL;
            List<Table> fit = fitting();
            if (fit.isEmpty()) return NONE;
            int best = 0, fewest = Integer.MAX_VALUE;
            for (int p = 1; p <= 9; p++) {
                Map<Integer, Integer> left = new HashMap<>();
                for (Table t : fit) {
                    left.merge(bits(t.copy().eat(0, p)), 1, Integer::sum);
                }
                int most = left.values().stream().mapToInt(n -> n).max().getAsInt();
                if (most < fewest) {
                    best = p;
                    fewest = most;
                }
            }
            return what == 0 ? best : fewest;
        }

        static int share(Map<Integer, Integer> shown, String digits, int guest) {
            List<Integer> line = new ArrayList<>(new TreeSet<>(shown.keySet()));
            line.sort(Comparator.comparing(shown::get));
            return digits.charAt(line.indexOf(guest)) - '0';
        }

        int portions(int number, int what) {
            if (!in(number, 0, 999999) || !in(what, 0, 1)) return OUTSIDE;
            String digits = String.format("%06d", number);
            Map<Integer, Integer> truth = new HashMap<>();
            for (Integer n : table.in(0)) {
                if (table.guests.get(n).hunger > 0) truth.put(n, table.guests.get(n).hunger);
            }
            for (Integer n : new TreeSet<>(truth.keySet())) {
                for (int f = 1; f <= 9; f++) {
                    Map<Integer, Integer> lie = new HashMap<>(truth);
                    lie.put(n, truth.get(n) - Math.min(f, truth.get(n)));
                    if (share(lie, digits, n) > share(truth, digits, n)) return what == 0 ? 0 : n;
                }
            }
            return what == 0 ? 1 : NONE;
        }

        void rows(List<Integer> row, List<Integer> rest, List<List<Integer>> all) {
            if (rest.isEmpty()) {
                all.add(new ArrayList<>(row));
            }
            for (Integer n : rest) {
                if (row.isEmpty() || !feuds.contains(Set.of(row.get(row.size() - 1), n))) {
                    List<Integer> left = new ArrayList<>(rest);
                    left.remove(n);
                    row.add(n);
                    rows(row, left, all);
                    row.remove(row.size() - 1);
                }
            }
        }

        int seats(int house, int place) {
            if (!in(house, 0, 2)) return UNKNOWN;
            List<List<Integer>> all = new ArrayList<>();
            rows(new ArrayList<>(), table.in(house), all);
            if (place == -1) return all.size();
            if (all.isEmpty() || place < 0 || place >= all.get(0).size()) return NONE;
            return all.get(0).get(place);
        }

        long belch(int guest, int p, int t, int part) {
            if (!isThere(guest)) return LOST + UNKNOWN;
            if (!in(p, 1, 9) || !in(t, 0, 10) || !in(part, 0, 1)) return LOST + OUTSIDE;
            int house = table.guests.get(guest).house;
            List<Integer> feigners = new ArrayList<>(table.in(house));
            feigners.removeIf(n -> table.guests.get(n).feint == 0);
            BigInteger up = BigInteger.ZERO, low = BigInteger.TEN.pow(feigners.size());
            for (int mask = 0; mask < 1 << feigners.size(); mask++) {
                Table tried = table.copy();
                tried.keen = 9;
                BigInteger weight = BigInteger.ONE;
                for (int k = 0; k < feigners.size(); k++) {
                    boolean isOut = (mask >> k & 1) == 1;
                    if (isOut) tried.guests.get(feigners.get(k)).feint = 0;
                    weight = weight.multiply(BigInteger.valueOf(isOut ? t : 10 - t));
                }
                if (tried.eat(house, p).contains(guest)) up = up.add(weight);
            }
            BigInteger common = up.gcd(low);
            return (part == 0 ? up : low).divide(common).longValueExact();
        }

        int host() {
            if (canNot()) return NO;
            int anyway = night(0).table.starved();
            int best = 0;
            for (int v = 1; v <= 9; v++) {
                if ((night(v).table.starved() & ~anyway) == 0) best = v;
            }
            return best;
        }

        int year(int seed, int m, int what) {
            if (!in(seed, 0, 9999) || !in(m, 1, 99) || !in(what, 0, 2)) return OUTSIDE;
            Behind b = new Behind();
            b.table = table.copy();
            long x = seed;
            for (int k = 0; k < m; k++) {
                x = (75 * x + 74) % 65537;
                char letter = (char) ('A' + x / 4 % 6);
                if (x % 4 == 0) act(b, ".", 0);
                if (x % 4 == 1) act(b, "" + letter + (char) ('a' + x / 32 % 3), 0);
                if (x % 4 == 2) act(b, "" + letter + x / 32 % 10, 0);
                if (x % 4 == 3) act(b, "" + (char) ('a' + x / 64 % 3) + (1 + x / 4 % 9), 0);
            }
            int hunger = b.table.guests.values().stream().mapToInt(g -> g.hunger).sum();
            return new int[] {b.eaten.values().stream().mapToInt(n -> n).sum(), b.left, hunger}[what];
        }

        void take(Model from) {
            table = from.table.copy();
            feuds = new HashSet<>(from.feuds);
            sights = new ArrayList<>(from.sights);
        }

        int image(int n) {
            if (!in(n, 0, 1)) return OUTSIDE;
            images[n] = new Model();
            images[n].take(this);
            return 1;
        }

        int restore(int n) {
            if (!in(n, 0, 1)) return OUTSIDE;
            if (images[n] == null) return STATE;
            take(images[n]);
            return 1;
        }

        int told(int what) {
            if (in(what, 0, 4)) {
                return new int[] {pad.length(), bits(table.guests.keySet()), table.keen, sights.size(), feuds.size()}[what];
            }
            return in(what, 10, 15) && isThere(what - 10) ? table.guests.get(what - 10).feint : OUTSIDE;
        }
    }

    /** One object and its model, by a seed. */
    static final class Run {
        final Random random;
        final LeastHungry x = new LeastHungry();
        final Model model = new Model();
        final StringBuilder calls = new StringBuilder();
        final int number;
        int made;

        Run(int number) {
            this.number = number;
            this.random = new Random(number);
        }

        /** Mostly low to high, now and then far from it. */
        int draw(int low, int high) {
            switch (random.nextInt(60)) {
                case 0:
                    return low - 1;
                case 1:
                    return high + 1;
                case 2:
                    return random.nextBoolean() ? Integer.MIN_VALUE : Integer.MAX_VALUE;
                case 3:
                    return random.nextInt();
                default:
                    return low + random.nextInt(high - low + 1);
            }
        }

        void due(String call, long got, long want) {
            made++;
            calls.append(call).append(" = ").append(want).append('\n');
            if (got != want) {
                wrong++;
                if (wrong <= SHOWN_FAULTS) {
                    System.out.println("run " + number + ": " + call + " answered " + got + ", the model " + want);
                }
            }
        }

        void step() {
            int kind = random.nextInt(71);
            if (kind == 70) {
                readAll();
            } else if (kind < 8) {
                guest();
            } else if (kind < 30) {
                night();
            } else {
                other(kind - 30);
            }
        }

        void guest() {
            int g = draw(0, 5), h = draw(0, random.nextBoolean() ? 20 : 6), f = random.nextBoolean() ? 0 : draw(0, 9);
            int house = random.nextInt(3) == 0 ? draw(0, 2) : 0;
            due("guest(" + g + ", " + h + ", " + f + ", " + house + ")", x.guest(g, h, f, house), model.guest(g, h, f, house));
        }

        void say(int sign) {
            due("say(" + sign + ")", x.say(sign), model.say(sign));
        }

        void night() {
            switch (random.nextInt(12)) {
                case 0:
                    due("wipe()", x.wipe(), model.wipe());
                    break;
                case 1:
                    due("done()", x.done(), model.done());
                    break;
                case 2:
                    say(draw(33, 126));
                    break;
                case 3:
                    due("judge(0)", x.judge(0), model.judge(0));
                    due("judge(1)", x.judge(1), model.judge(1));
                    int what = draw(0, 1);
                    due("judge(" + what + ")", x.judge(what), model.judge(what));
                    break;
                case 4:
                    due("fault()", x.fault(), model.fault());
                    due("host()", x.host(), model.host());
                    break;
                case 5:
                    int part = draw(0, 2);
                    due("waste(" + part + ")", x.waste(part), model.waste(part));
                    break;
                case 6:
                    int g = draw(0, 5), of = draw(0, 3);
                    due("behind(" + g + ", " + of + ")", x.behind(g, of), model.behind(g, of));
                    break;
                default:
                    act();
                    break;
            }
        }

        void act() {
            int kind = random.nextInt(10);
            if (kind < 3) {
                for (int k = random.nextInt(4); k >= 0; k--) {
                    say('.');
                }
            } else if (kind < 7) {
                say('a' + random.nextInt(3));
                say('1' + random.nextInt(9));
            } else {
                say('A' + random.nextInt(6));
                say(kind < 9 ? '0' + random.nextInt(10) : 'a' + random.nextInt(3));
            }
        }

        void other(int kind) {
            int g = draw(0, 5), house = draw(0, 2), p = draw(1, random.nextBoolean() ? 3 : 9), what = draw(0, 1), n = draw(0, 1);
            switch (kind) {
                case 0: due("leave(" + g + ")", x.leave(g), model.leave(g)); break;
                case 1: case 2: { int v = draw(0, 9); due("keen(" + v + ")", x.keen(v), model.keen(v)); break; }
                case 3: case 4: case 5: {
                    int o = draw(0, 5);
                    boolean is = random.nextInt(4) > 0;
                    due("feud(" + g + ", " + o + ", " + is + ")", x.feud(g, o, is), model.feud(g, o, is));
                    break;
                }
                case 6: case 7: { int w = draw(0, 2); due("state(" + g + ", " + w + ")", x.state(g, w), model.state(g, w)); break; }
                case 8: case 9: case 10: due("served(" + house + ", " + p + ")", x.served(house, p), model.served(house, p)); break;
                case 11: case 12: due("feign(" + g + ", " + p + ")", x.feign(g, p), model.feign(g, p)); break;
                case 13: case 14: {
                    int i = draw(-1, 4);
                    due("rests(" + house + ", " + p + ", " + i + ")", x.rests(house, p, i), model.rests(house, p, i));
                    due("rests(" + house + ", " + p + ", -1)", x.rests(house, p, -1), model.rests(house, p, -1));
                    break;
                }
                case 15: case 16: {
                    int m = draw(0, 5), number = draw(0, 999);
                    due("round(" + g + ", " + m + ", " + number + ", " + what + ")", x.round(g, m, number, what), model.round(g, m, number, what));
                    break;
                }
                case 17: case 18: {
                    int rule = draw(0, 2);
                    due("rules(" + house + ", " + p + ", " + rule + ", " + what + ")", x.rules(house, p, rule, what), model.rules(house, p, rule, what));
                    break;
                }
                case 19: case 20: case 21: {
                    int set = random.nextInt(3) == 0 ? draw(0, 63) : Math.max(0, model.served(0, p));
                    due("seen(" + p + ", " + set + ")", x.seen(p, set), model.seen(p, set));
                    break;
                }
                case 22: due("forget()", x.forget(), model.forget()); break;
                case 23: { int of = draw(-1, 5); due("worlds(" + of + ", " + what + ")", x.worlds(of, what), model.worlds(of, what)); break; }
                case 24: due("worlds(" + g + ", " + what + ")", x.worlds(g, what), model.worlds(g, what)); break;
                case 25: due("tells(" + what + ")", x.tells(what), model.tells(what)); break;
                case 26: case 27: case 28: {
                    int number = draw(0, 999999);
                    due("portions(" + number + ", " + what + ")", x.portions(number, what), model.portions(number, what));
                    break;
                }
                case 29: case 30: {
                    int place = draw(-1, 6);
                    due("seats(" + house + ", " + place + ")", x.seats(house, place), model.seats(house, place));
                    break;
                }
                case 31: case 32: case 33: {
                    int t = draw(0, 10);
                    due("belch(" + g + ", " + p + ", " + t + ", " + what + ")", x.belch(g, p, t, what), model.belch(g, p, t, what));
                    break;
                }
                case 34: case 35: {
                    int seed = draw(0, 9999), m = draw(1, 99), w = draw(0, 2);
                    due("year(" + seed + ", " + m + ", " + w + ")", x.year(seed, m, w), model.year(seed, m, w));
                    break;
                }
                case 36: due("image(" + n + ")", x.image(n), model.image(n)); break;
                case 37: due("restore(" + n + ")", x.restore(n), model.restore(n)); break;
                default: { int w = draw(0, 16); due("told(" + w + ")", x.told(w), model.told(w)); break; }
            }
        }

        /** All that can be read of the state is as the model's. */
        void readAll() {
            for (int what = 0; what <= 4; what++) {
                due("told(" + what + ")", x.told(what), model.told(what));
            }
            for (int g = 0; g < 6; g++) {
                due("told(" + (10 + g) + ")", x.told(10 + g), model.told(10 + g));
                for (int what = 0; what < 3; what++) {
                    due("state(" + g + ", " + what + ")", x.state(g, what), model.state(g, what));
                }
            }
        }
    }

    public static void main(String[] args) {
        for (int number = 0; number < OBJECTS && wrong == 0; number++) {
            Run run = new Run(number);
            while (run.made + MOST_OF_A_STEP <= CALLS && wrong == 0) {
                run.step();
            }
            if (wrong > 0) {
                System.out.println(run.calls.substring(Math.max(0, run.calls.length() - 3000)));
            }
        }
        System.out.println(wrong == 0 ? "all answers are as the model's" : wrong + " answers are not as the model's");
        if (wrong != 0) {
            System.exit(1);
        }
    }
}
