/**
 * For each sentence of the document that names a boundary case a test of its own: the sentence, then calls on
 * both its sides. What is refused, and in which order, RefusalTest tries for every call.
 */
public final class BoundaryTest {
    static final int NONE = -6, UNKNOWN = -1, OUTSIDE = -2, STATE = -3, FULL = -4, NO = -5;
    static final int LOW = Integer.MIN_VALUE, HIGH = Integer.MAX_VALUE;

    static int wrong = 0;
    static String sentence = "";

    static void due(String call, long got, long want) {
        if (got != want) {
            wrong++;
            System.out.println("\"" + sentence + "\": " + call + " answered " + got + ", due is " + want);
        }
    }

    static void night(LeastHungry x, String night) {
        x.wipe();
        for (int i = 0; i < night.length(); i++) {
            x.say(night.charAt(i));
        }
    }

    static LeastHungry withNight(LeastHungry x, String night) {
        night(x, night);
        return x;
    }

    /** A, B and so on in house a, without feints. */
    static LeastHungry hungers(int... hungers) {
        LeastHungry x = new LeastHungry();
        for (int g = 0; g < hungers.length; g++) {
            x.guest(g, hungers[g], 0, 0);
        }
        return x;
    }

    /** One guest, A, in house a. */
    static LeastHungry one(int hunger, int feint) {
        LeastHungry x = new LeastHungry();
        x.guest(0, hunger, feint, 0);
        return x;
    }

    public static void main(String[] args) {
        beginning();
        guests();
        feints();
        dishes();
        keen();
        pad();
        acts();
        faults();
        reasons();
        judged();
        done();
        behind();
        waste();
        starved();
        served();
        feuds();
        feign();
        rests();
        restsAtRest();
        round();
        rules();
        sights();
        worlds();
        tells();
        portions();
        portionsOfWhom();
        seats();
        belch();
        host();
        year();
        yearActs();
        images();
        told();
        letters();
        houses();
        System.out.println(wrong == 0 ? "all boundaries hold" : wrong + " answers are not as due");
        if (wrong != 0) {
            System.exit(1);
        }
    }

    static void beginning() {
        sentence = "none at first";
        LeastHungry x = new LeastHungry();
        due("told(1)", x.told(1), 0);
        for (int g = 0; g < 6; g++) {
            due("state(" + g + ", 2)", x.state(g, 2), UNKNOWN);
            due("leave(" + g + ")", x.leave(g), UNKNOWN);
            due("told(" + (10 + g) + ")", x.told(10 + g), OUTSIDE);
        }
        sentence = "KEEN 9 at first";
        due("told(2)", x.told(2), 9);
        due("keen(0)", x.keen(0), 9);
        sentence = "an empty PAD, no SIGHTS, no feuds at first";
        due("wipe()", x.wipe(), 0);
        due("forget()", x.forget(), 0);
        due("told(4)", x.told(4), 0);
        due("fault()", x.fault(), NONE);
        due("done()", x.done(), 0);
    }

    static void guests() {
        sentence = "A GUEST is there (or anew): how many are";
        LeastHungry x = new LeastHungry();
        for (int g = 0; g < 6; g++) {
            due("guest " + g, x.guest(g, 20, 9, 2), g + 1);
        }
        due("a sixth anew", x.guest(5, 0, 0, 0), 6);
        due("his hunger anew", x.state(5, 0), 0);
        due("his feint anew", x.told(15), 0);
        due("his house anew", x.state(5, 2), 0);
        due("the others' houses", x.served(2, 9), 31);
        sentence = "A GUEST leaves for good (his feuds go): how many are there";
        for (int g = 0; g < 6; g++) {
            due("leave(" + g + ")", x.leave(g), 5 - g);
            due("leave(" + g + ") again", x.leave(g), UNKNOWN);
        }
        due("told(1)", x.told(1), 0);
        sentence = "a GUEST who left is there anew as told, not as he was";
        due("guest", x.guest(3, 1, 2, 1), 1);
        due("hunger", x.state(3, 0), 1);
        due("feint", x.told(13), 2);
        due("house", x.state(3, 2), 1);
        sentence = "HUNGER 0 to 20";
        due("0", x.guest(0, 0, 0, 0) * 100 + x.state(0, 0), 200);
        due("20", x.guest(0, 20, 0, 0) * 100 + x.state(0, 0), 220);
        due("21", x.guest(0, 21, 0, 0), OUTSIDE);
        due("-1", x.guest(0, -1, 0, 0), OUTSIDE);
        due("as it was", x.state(0, 0), 20);
    }

    static void feints() {
        sentence = "SHOWS less than that by FEINT (so much as HUNGER at most counts)";
        due("hunger 8, feint 9", one(8, 9).state(0, 1), 0);
        due("hunger 9, feint 9", one(9, 9).state(0, 1), 0);
        due("hunger 10, feint 9", one(10, 9).state(0, 1), 1);
        due("hunger 0, feint 9", one(0, 9).state(0, 1), 0);
        due("hunger 20, feint 0", one(20, 0).state(0, 1), 20);
        due("feint as told", one(0, 9).told(10), 9);
        sentence = "more of the FEINT counts when HUNGER is more";
        LeastHungry x = withNight(one(8, 9), "..");
        x.done();
        due("hunger 10 behind two hours", x.state(0, 1), 1);
        sentence = "of several the first by letters, whose SHOWN is 0 by what counts";
        LeastHungry y = hungers(5, 0, 3);
        y.guest(0, 5, 5, 0);
        y.guest(2, 3, 9, 0);
        due("A and C show 0, both", y.served(0, 1), 1);
        y.guest(0, 5, 4, 0);
        due("A shows 1", y.served(0, 1), 4);
    }

    static void dishes() {
        sentence = "by least SHOWN, of several the first by letters, till there are no portions more";
        LeastHungry x = hungers(5, 4, 3, 2, 1, 6);
        int[] sets = {16, 24, 28, 30, 31, 63, 63, 63, 63};
        for (int p = 1; p <= 9; p++) {
            due("served(0, " + p + ")", x.served(0, p), sets[p - 1]);
        }
        LeastHungry same = hungers(7, 7, 7, 7, 7, 7);
        for (int p = 1; p <= 9; p++) {
            due("all alike, served(0, " + p + ")", same.served(0, p), p < 6 ? (1 << p) - 1 : 63);
        }
        sentence = "who is there and has HUNGER above 0 is served";
        due("hungers 0 and 1", hungers(0, 1).served(0, 9), 2);
        due("hunger 0 alone", hungers(0).served(0, 1), 0);
        due("he takes nobody's portion", hungers(0, 0, 0, 9).served(0, 1), 8);
        sentence = "who is served has 2 less HUNGER (0 at least)";
        LeastHungry y = withNight(hungers(1, 2, 3, 0), "a9");
        due("of 1", y.behind(0, 0), 0);
        due("of 2", y.behind(1, 0), 0);
        due("of 3", y.behind(2, 0), 1);
        due("of 0", y.behind(3, 0), 0);
        sentence = "Nobody is served twice by one DISH";
        LeastHungry z = withNight(hungers(20), "a9");
        due("portions", z.behind(0, 1), 1);
        due("hunger", z.behind(0, 0), 18);
        due("left", z.waste(0), 8);
        night(z, "a9a9");
        due("by two dishes he is", z.behind(0, 1), 2);
        sentence = "Portions that nobody takes are LEFT over";
        due("three of three: none", withNight(hungers(1, 1, 1), "a3").waste(0), 0);
        due("four for three: one", withNight(hungers(1, 1, 1), "a4").waste(0), 1);
        due("two for three: none", withNight(hungers(1, 1, 1), "a2").waste(0), 0);
    }

    static void keen() {
        sentence = "Whose FEINT is above KEEN (as much of it as counts) is found out";
        for (int keen = 0; keen <= 9; keen++) {
            LeastHungry x = one(20, keen);
            x.keen(keen);
            due("feint " + keen + ", keen " + keen, x.served(0, 1), 1);
            if (keen < 9) {
                x.guest(0, 20, keen + 1, 0);
                due("feint " + (keen + 1) + ", keen " + keen, x.served(0, 1), 0);
                x.guest(0, keen, keen + 1, 0);
                due("feint " + (keen + 1) + ", of which " + keen + " counts", x.served(0, 1), keen == 0 ? 0 : 1);
                x.guest(0, keen + 1, 9, 0);
                due("feint 9, of which " + (keen + 1) + " counts", x.served(0, 1), 0);
            }
        }
        sentence = "if he is there when a DISH comes";
        LeastHungry x = one(5, 5);
        x.guest(1, 5, 0, 1);
        x.keen(0);
        night(x, "b1");
        due("a dish elsewhere", x.behind(0, 2), 0);
        night(x, "a1b1Aba1");
        due("nobody is in house a: no night", x.behind(0, 2), NO);
        night(x, "a1b1Abb1");
        due("ahead of going and behind it", x.behind(0, 2), 2);
        sentence = "and HUNGER is above 0";
        LeastHungry y = one(0, 9);
        y.keen(0);
        night(y, "a1");
        due("hunger 0", y.behind(0, 2), 0);
        night(y, ".a1");
        due("hunger 1", y.behind(0, 2), 1);
        sentence = "he is not served of this DISH";
        LeastHungry z = one(5, 5);
        z.keen(4);
        night(z, "a1A4a1");
        due("but of the next", z.behind(0, 1), 1);
        due("found out once", z.behind(0, 2), 1);
        due("hunger", z.behind(0, 0), 3);
        due("left", z.waste(0), 1);
        sentence = "KEEN: which it was; OUTSIDE";
        due("keen(9)", z.keen(9), 4);
        due("keen(10)", z.keen(10), OUTSIDE);
        due("keen(-1)", z.keen(-1), OUTSIDE);
        due("keen(0)", z.keen(0), 9);
        due("told(2)", z.told(2), 0);
    }

    static void pad() {
        sentence = "60 SIGNS at most; FULL";
        LeastHungry x = one(3, 0);
        for (int i = 1; i <= 60; i++) {
            due("sign " + i, x.say('.'), i);
        }
        due("sign 61", x.say('.'), FULL);
        due("a wrong sign 61", x.say(127), OUTSIDE);
        due("told(0)", x.told(0), 60);
        due("fault", x.fault(), NONE);
        due("acts", x.done(), 60);
        due("room again", x.say('.'), 1);
        sentence = "codes 33 to 126";
        due("33", x.say(33), 2);
        due("126", x.say(126), 3);
        due("32", x.say(32), OUTSIDE);
        due("127", x.say(127), OUTSIDE);
        due("0", x.say(0), OUTSIDE);
        due("'.' and 256", x.say('.' + 256), OUTSIDE);
        due("'.' and 65536", x.say('.' + 65536), OUTSIDE);
        sentence = "Signs go: how many there were";
        due("wipe", x.wipe(), 3);
        due("wipe again", x.wipe(), 0);
        due("fault", x.fault(), NONE);
        x.say('a');
        due("what was wiped does not come back", x.fault(), 1);
    }

    static void acts() {
        sentence = "an hour: all have 1 more HUNGER, 20 at most";
        LeastHungry x = hungers(0, 18, 19, 20);
        x.guest(4, 5, 9, 2);
        night(x, ".");
        int[] hungers = {1, 19, 20, 20, 6};
        for (int g = 0; g < 5; g++) {
            due("guest " + g, x.behind(g, 0), hungers[g]);
        }
        sentence = "he goes there; he has 1 more HUNGER by it, 20 at most";
        LeastHungry y = hungers(19, 20, 4);
        night(y, "AbBcCb");
        due("of 19", y.behind(0, 0), 20);
        due("of 20", y.behind(1, 0), 20);
        due("of 4", y.behind(2, 0), 5);
        due("there", y.behind(1, 3), 2);
        sentence = "a digit 0 to 9 (that is his FEINT from now on)";
        LeastHungry z = one(4, 3);
        for (int feint = 0; feint <= 9; feint++) {
            night(z, "A" + feint);
            due("A" + feint, z.done() * 100 + z.told(10), 100 + feint);
        }
        due("no hunger by it", z.state(0, 0), 4);
        sentence = "a HOUSE's letter and a digit 1 to 9 (a DISH)";
        for (int p = 1; p <= 9; p++) {
            due("a" + p, withNight(hungers(2, 2, 2, 2, 2, 2), "a" + p).waste(0), Math.max(0, p - 6));
        }
    }

    static void faults() {
        LeastHungry x = new LeastHungry();
        sentence = "the first sign that can not stand there";
        String firsts = "abcABCDEF.";
        for (char sign = 33; sign <= 126; sign++) {
            night(x, "" + sign);
            due("'" + sign + "' first", x.fault(), firsts.indexOf(sign) < 0 ? 0 : sign == '.' ? NONE : 1);
        }
        LeastHungry y = new LeastHungry();
        for (char sign = 33; sign <= 126; sign++) {
            night(y, "c" + sign);
            due("'c" + sign + "'", y.fault(), sign >= '1' && sign <= '9' ? NONE : 1);
        }
        LeastHungry z = new LeastHungry();
        for (char sign = 33; sign <= 126; sign++) {
            night(z, "F" + sign);
            boolean isRight = sign >= '0' && sign <= '9' || sign >= 'a' && sign <= 'c';
            due("'F" + sign + "'", z.fault(), isRight ? NONE : 1);
        }
        LeastHungry w = new LeastHungry();
        night(w, "zz");
        due("of two the first", w.fault(), 0);
        night(w, "a1zz");
        due("of two the first", w.fault(), 2);
        night(w, "Aaa1a");
        due("the sign ahead of what is missing", w.fault(), 5);
        sentence = "the number of signs, if more must come (an empty PAD has none)";
        due("an empty pad", new LeastHungry().fault(), NONE);
        night(w, "a");
        due("'a'", w.fault(), 1);
        night(w, ".F");
        due("'.F'", w.fault(), 2);
        LeastHungry full = withNight(one(1, 0), ".".repeat(59) + "a");
        due("a full pad", full.fault(), 60);
        due("a full pad is not judged", full.judge(0), NO);
        due("nor done", full.done(), NO);
        LeastHungry last = withNight(one(1, 0), ".".repeat(59) + "1");
        due("the last of a full pad", last.fault(), 59);
        due("a full pad of dishes", withNight(one(1, 0), "a1".repeat(30)).fault(), NONE);
    }

    static void reasons() {
        sentence = "the least of these reasons: 1 the GUEST is not there";
        LeastHungry x = one(5, 0);
        String[] absent = {"Ba", "Bc", "B0", "F9"};
        for (String act : absent) {
            night(x, act);
            due(act, x.judge(0) * 10 + x.judge(1), 1);
        }
        sentence = "2 he is in that HOUSE already";
        night(x, "Aa");
        due("Aa", x.judge(1), 2);
        night(x, "AbAb");
        due("AbAb", x.judge(0) * 10 + x.judge(1), 12);
        night(x, "AbAaAbAcAa");
        due("to and fro", x.judge(0), NONE);
        sentence = "3 nobody is in that HOUSE";
        night(x, "b1");
        due("b1", x.judge(0) * 10 + x.judge(1), 3);
        night(x, "Aba1");
        due("Aba1", x.judge(0) * 10 + x.judge(1), 13);
        night(x, "Abb1");
        due("Abb1", x.judge(0), NONE);
        night(x, "Ac");
        due("a guest goes where nobody is", x.judge(0), NONE);
        night(x, "A0A0");
        due("the feint that he has can be his again", x.judge(1), NONE);
        LeastHungry y = one(0, 9);
        y.keen(0);
        night(y, "a1");
        due("a dish before who wants none can be", y.judge(1), NONE);
        night(new LeastHungry(), ".");
        due("an hour can be where nobody is", withNight(new LeastHungry(), ".").judge(0), NONE);
    }

    static void judged() {
        sentence = "the first ACT (from 0 on; hours are ACTS) that can not be, and why; NONE";
        LeastHungry x = one(5, 0);
        due("an empty pad", x.judge(0), NONE);
        due("why", x.judge(1), NONE);
        night(x, "AaBa");
        due("of two the first", x.judge(0) * 10 + x.judge(1), 2);
        night(x, "..A3a1.AaBa");
        due("the sixth", x.judge(0) * 10 + x.judge(1), 52);
        night(x, ".".repeat(58) + "Aa");
        due("the last of a full pad", x.judge(0) * 10 + x.judge(1), 582);
        night(x, ".".repeat(60));
        due("a full pad of hours", x.judge(0), NONE);
        sentence = "NO: there is a FAULT";
        LeastHungry y = one(5, 0);
        night(y, "Aa!");
        due("a fault behind an act that can not be", y.judge(0), NO);
        due("why", y.judge(1), NO);
        due("OUTSIDE ahead of it", y.judge(2), OUTSIDE);
    }

    static void done() {
        sentence = "The NIGHT on the PAD is DONE (it is empty then): ACTS";
        LeastHungry x = one(5, 0);
        due("an empty pad", x.done(), 0);
        night(x, ".");
        due("one act", x.done(), 1);
        due("the pad", x.told(0), 0);
        due("hunger", x.state(0, 0), 6);
        due("not again", x.done(), 0);
        due("hunger", x.state(0, 0), 6);
        night(x, "a1".repeat(30));
        due("thirty acts", x.done(), 30);
        due("hunger", x.state(0, 0), 0);
        sentence = "NO: there is a FAULT, or an ACT that can not be";
        night(x, ".......Aa");
        due("the last act can not be", x.done(), NO);
        due("nothing of it is done", x.state(0, 0), 0);
        due("the pad stays", x.wipe(), 9);
        night(x, "...a");
        due("a sign is missing", x.done(), NO);
        due("nothing of it is done", x.state(0, 0), 0);
        due("the pad stays", x.told(0), 4);
        due("the next sign makes it whole", x.say('1') * 10 + x.done(), 54);
        due("hunger", x.state(0, 0), 1);
    }

    static void behind() {
        sentence = "BEHIND, likewise, not being DONE";
        LeastHungry x = one(5, 0);
        x.guest(5, 7, 0, 0);
        due("an empty pad: hunger", x.behind(5, 0), 7);
        due("portions", x.behind(5, 1), 0);
        due("found out", x.behind(5, 2), 0);
        due("house", x.behind(5, 3), 0);
        night(x, "a1".repeat(29) + "Fc");
        due("portions of A", x.behind(0, 1), 3);
        due("portions of F", x.behind(5, 1), 4);
        due("his hunger", x.behind(5, 0), 1);
        due("his house", x.behind(5, 3), 2);
        due("as it is", x.state(5, 0) * 10 + x.state(5, 2), 70);
        due("the pad", x.told(0), 60);
        sentence = "how often he was found out in it";
        LeastHungry y = one(20, 1);
        y.keen(0);
        night(y, "a9".repeat(30));
        due("thirty times", y.behind(0, 2), 30);
        due("no portions", y.behind(0, 1), 0);
        due("left", y.waste(0), 270);
        due("untouched", y.waste(1), 0);
    }

    static void waste() {
        sentence = "how many portions are LEFT over in it";
        LeastHungry x = one(0, 0);
        due("an empty pad", x.waste(0), 0);
        night(x, "a9".repeat(30));
        due("all of thirty dishes", x.waste(0), 270);
        sentence = "the first ACT that is a DISH of which nobody is served; NONE";
        due("the first", x.waste(1), 0);
        night(x, "..a1a1a1");
        due("two hours, a portion, then none", x.waste(1), 3);
        night(x, "...a1a1");
        due("three hours: each has one", x.waste(1), NONE);
        night(x, "...");
        due("no dish", x.waste(1), NONE);
        night(x, "");
        due("an empty pad", x.waste(1), NONE);
        night(x, ".".repeat(54) + "a1Aba1");
        due("a night that can not be", x.waste(1), NO);
        night(x, ".".repeat(58) + "a1");
        due("the last of a full pad is served", x.waste(1), NONE);
        LeastHungry y = one(0, 0);
        night(y, "A1".repeat(29) + "a1");
        due("the last of a full pad is not", y.waste(1), 29);
    }

    static void starved() {
        sentence = "STARVED: GUESTS whose HUNGER is 20 behind it, as bits";
        LeastHungry x = hungers(20, 19, 18, 0);
        x.guest(5, 20, 9, 2);
        due("an empty pad", x.waste(2), 33);
        night(x, ".");
        due("an hour", x.waste(2), 35);
        night(x, "..");
        due("two hours", x.waste(2), 39);
        night(x, "AbBb");
        due("by going", x.waste(2), 35);
        night(x, "a4");
        due("who is served is not", x.waste(2), 32);
        x.leave(0);
        night(x, ".");
        due("who left is not", x.waste(2), 34);
        night(x, ".".repeat(60));
        due("all", x.waste(2), 46);
    }

    static void served() {
        sentence = "SERVED, now, by a DISH of p portions before a HOUSE";
        LeastHungry x = hungers(3, 2);
        x.guest(5, 1, 0, 2);
        due("house b: nobody", x.served(1, 9), 0);
        due("house c", x.served(2, 9), 32);
        due("house a", x.served(0, 1), 2);
        night(x, "Bca");
        due("now, not behind the night", x.served(0, 1), 2);
        sentence = "p 1 to 9";
        due("p 0", x.served(0, 0), OUTSIDE);
        due("p 10", x.served(0, 10), OUTSIDE);
        due("p HIGH", x.served(0, HIGH), OUTSIDE);
        due("p LOW", x.served(0, LOW), OUTSIDE);
    }

    static void feuds() {
        sentence = "Two have a feud (is true), or none: how many twos have";
        LeastHungry x = hungers(1, 1, 1, 1, 1, 1);
        int twos = 0;
        for (int g = 0; g < 6; g++) {
            for (int other = g + 1; other < 6; other++) {
                twos++;
                due("feud(" + g + ", " + other + ")", x.feud(g, other, true), twos);
                due("feud(" + other + ", " + g + ")", x.feud(other, g, true), twos);
            }
        }
        due("all fifteen", x.told(4), 15);
        sentence = "his feuds go";
        due("leave(5)", x.leave(5), 5);
        due("ten", x.told(4), 10);
        x.guest(5, 1, 0, 0);
        due("ten", x.told(4), 10);
        sentence = "or none";
        due("none that was none", x.feud(0, 5, false), 10);
        due("none from the other's side", x.feud(4, 0, false), 9);
        due("none again", x.feud(0, 4, false), 9);
        sentence = "UNKNOWN: both, who are there, also one";
        due("one", x.feud(2, 2, true), UNKNOWN);
        due("one, none", x.feud(2, 2, false), UNKNOWN);
        x.leave(3);
        due("the first is not there", x.feud(3, 0, true), UNKNOWN);
        due("the second is not there", x.feud(0, 3, true), UNKNOWN);
        due("one who is not there", x.feud(3, 3, true), UNKNOWN);
        due("told(4)", x.told(4), 5);
    }

    static void feign() {
        sentence = "the least FEINT (0 to 9) by which a GUEST is served";
        for (int hunger = 1; hunger <= 20; hunger++) {
            LeastHungry x = hungers(3, hunger);
            int least = Math.max(0, hunger - 2);
            due("B of hunger " + hunger, x.feign(1, 1), least <= 9 ? least : NONE);
            LeastHungry y = hungers(hunger, 3);
            int first = Math.max(0, hunger - 3);
            due("A of hunger " + hunger, y.feign(0, 1), first <= 9 ? first : NONE);
        }
        sentence = "NONE";
        due("hunger 0", hungers(0).feign(0, 9), NONE);
        due("B behind A who shows 0", zeroShown().feign(1, 1), NONE);
        due("A ahead of B who shows 0", zeroShown().feign(0, 1), 0);
        due("enough for all", zeroShown().feign(1, 2), 0);
        sentence = "FEIGN by KEEN: what is found out is not served";
        LeastHungry x = hungers(5, 3);
        x.keen(1);
        due("2 is found out", x.feign(0, 1), NONE);
        x.keen(2);
        due("2 is not", x.feign(0, 1), 2);
        sentence = "where he is, all others as they are";
        x.guest(1, 3, 0, 1);
        due("alone", x.feign(0, 1), 0);
        due("his own feint does not matter", one(20, 9).feign(0, 1), 0);
    }

    static LeastHungry zeroShown() {
        LeastHungry x = hungers(4, 4);
        x.guest(0, 4, 9, 0);
        return x;
    }

    static void rests() {
        sentence = "who are in a HOUSE (4 at most); FULL: more than 4 are there";
        LeastHungry x = hungers(1, 1, 1, 1);
        x.guest(4, 1, 0, 1);
        x.guest(5, 1, 0, 2);
        due("four", x.rests(0, 4, -1), 1);
        x.guest(4, 1, 0, 0);
        due("five", x.rests(0, 4, -1), FULL);
        due("five, the first row", x.rests(0, 4, 0), FULL);
        due("another house", x.rests(2, 1, -1), 1);
        x.guest(5, 1, 0, 0);
        due("six", x.rests(0, 4, -1), FULL);
        x.leave(0);
        due("five", x.rests(0, 4, -1), FULL);
        x.leave(1);
        due("four", x.rests(0, 4, -1), 1);
        sentence = "0: nobody is there";
        LeastHungry y = new LeastHungry();
        due("how many", y.rests(1, 1, -1), 1);
        due("the row", y.rests(1, 1, 0), 0);
        sentence = "how many (i = -1), the i-th; NONE (i below -1, too)";
        due("no second", y.rests(1, 1, 1), NONE);
        due("i -2", y.rests(1, 1, -2), NONE);
        due("i LOW", y.rests(1, 1, LOW), NONE);
        due("i HIGH", y.rests(1, 1, HIGH), NONE);
        sentence = "as digits 0, 3, 6, the least GUEST's first; rising";
        LeastHungry z = new LeastHungry();
        int[] hungers = {14, 1, 5, 5};
        for (int g = 0; g < 4; g++) {
            z.guest(g + 2, hungers[g], 0, 1);
        }
        due("how many", z.rests(1, 1, -1), 3);
        int[] rows = {0, 6, 60};
        for (int i = 0; i < 3; i++) {
            due("row " + i, z.rests(1, 1, i), rows[i]);
        }
        due("row 3", z.rests(1, 1, 3), NONE);
    }

    static void restsAtRest() {
        sentence = "rows by which none of them has more by another of the three";
        due("B has 2 less 1 by 3, so he does", hungers(4, 6).rests(0, 1, -1), 0);
        due("B would have 2 less 2 by 6: as much, not more", hungers(4, 9).rests(0, 1, -1), 1);
        due("none feigns", hungers(4, 9).rests(0, 1, 0), 0);
        due("B by 6: A would have 1 less 1 by 3: not more", hungers(1, 5).rests(0, 1, -1), 2);
        due("the first: none feigns", hungers(1, 5).rests(0, 1, 0), 0);
        due("the second: B by 6", hungers(1, 5).rests(0, 1, 1), 6);
        sentence = "he has 2 (or what HUNGER he has, if that is less) for a portion";
        due("hunger 1 less 1: as much, so both rows are at rest", hungers(1, 1).rests(0, 1, -1), 2);
        due("hunger 2 less 1: more", hungers(1, 2).rests(0, 1, -1), 1);
        due("by 3", hungers(1, 2).rests(0, 1, 0), 3);
        sentence = "less FEINT by 3 (as told, not as it counts)";
        due("6 would count as 2, but is as told", one(2, 6).rests(0, 1, 0), 0);
        due("one row", one(2, 6).rests(0, 1, -1), 1);
        sentence = "RESTS by KEEN: a FEINT of 3 is above 2";
        LeastHungry x = hungers(1, 2);
        x.keen(1);
        due("2 of it counts, found out", x.rests(0, 1, 0), 0);
        x.keen(2);
        due("not found out", x.rests(0, 1, 0), 3);
        sentence = "who has no HUNGER has nothing for a portion";
        due("none feigns", hungers(0, 0).rests(0, 9, -1) * 10 + hungers(0, 0).rests(0, 9, 0), 10);
    }

    static void round() {
        sentence = "m hours (0 to 5); NONE: m is 0";
        LeastHungry x = hungers(7);
        due("m 0", x.round(0, 0, 999, 0), 7);
        due("m 0, the house", x.round(0, 0, 999, 1), NONE);
        due("m 1", x.round(0, 1, 999, 0), 6);
        due("m 5", x.round(0, 5, 999, 0), 2);
        due("m 5, the house", x.round(0, 5, 999, 1), 0);
        due("m 6", x.round(0, 6, 999, 0), OUTSIDE);
        due("m -1", x.round(0, -1, 999, 0), OUTSIDE);
        sentence = "portions told as a number (its three digits: a, b, c; 0: none)";
        due("0", x.round(0, 1, 0, 0), 8);
        due("1", x.round(0, 1, 1, 0) * 10 + x.round(0, 1, 1, 1), 72);
        due("10", x.round(0, 1, 10, 0) * 10 + x.round(0, 1, 10, 1), 71);
        due("100", x.round(0, 1, 100, 0) * 10 + x.round(0, 1, 100, 1), 60);
        due("999", x.round(0, 1, 999, 0), 6);
        due("1000", x.round(0, 1, 1000, 0), OUTSIDE);
        due("-1", x.round(0, 1, -1, 0), OUTSIDE);
        roundNumbers();
        sentence = "in the last of 5 hours he stays, too";
        LeastHungry inB = new LeastHungry();
        inB.guest(0, 10, 0, 1);
        due("in b", inB.round(0, 5, 10, 0) * 10 + inB.round(0, 5, 10, 1), 51);
        sentence = "each going is 1 more HUNGER, 20 at most";
        due("at 20 going costs nothing", hungers(20).round(0, 1, 10, 0), 19);
        due("at 19 it costs one", hungers(19).round(0, 1, 10, 0), 19);
        sentence = "0 at least, then the hour passes";
        due("at 1: a portion, then an hour", hungers(1).round(0, 1, 900, 0), 1);
        due("at 0: nothing, then an hour", hungers(0).round(0, 1, 900, 0), 1);
        due("at 0 to go and eat is as much", hungers(0).round(0, 1, 90, 0) * 10 + hungers(0).round(0, 1, 90, 1), 10);
        sentence = "the first row of HOUSES (by letters) that does so";
        due("c, then stay", hungers(6).round(0, 2, 1, 1), 2);
        due("b and c alike", hungers(6).round(0, 2, 11, 1), 1);
        due("all at 20, nothing comes", hungers(20).round(0, 3, 0, 1), 0);
        sentence = "all others stay where they are";
        LeastHungry y = hungers(6, 5);
        due("B eats at a ahead of him", y.round(0, 1, 100, 0), 7);
        due("and each hour again", y.round(0, 5, 100, 0), 11);
        due("B wants none yet", hungers(6, 0).round(0, 1, 100, 0), 5);
        due("but behind the hour", hungers(6, 0).round(0, 2, 100, 0), 6);
        due("as it is", y.state(0, 0) * 10 + y.state(1, 0), 65);
    }

    /** Every number of three digits: 7 and a portion where he is, or by going, or none anywhere; then the hour. */
    static void roundNumbers() {
        for (int number = 0; number <= 999; number++) {
            LeastHungry x = new LeastHungry();
            int house = number % 3;
            x.guest(4, 7, 0, house);
            int[] digits = {number / 100, number / 10 % 10, number % 10};
            int first = house;
            for (int h = 2; h >= 0 && digits[house] == 0; h--) {
                first = digits[h] > 0 ? h : first;
            }
            int hunger = digits[house] > 0 ? 6 : first != house ? 7 : 8;
            due("round(4, 1, " + number + ", 0)", x.round(4, 1, number, 0), hunger);
            due("round(4, 1, " + number + ", 1)", x.round(4, 1, number, 1), first);
        }
    }

    static void rules() {
        sentence = "of nobody 0, both";
        LeastHungry x = hungers(9, 2, 9);
        for (int rule = 0; rule <= 2; rule++) {
            due("rule " + rule + " together", x.rules(1, 9, rule, 0), 0);
            due("rule " + rule + " the greatest", x.rules(2, 9, rule, 1), 0);
        }
        sentence = "0 least SHOWN, 1 by letters, 2 most HUNGER (of several the first by letters)";
        due("0: B", x.rules(0, 1, 0, 0) * 100 + x.rules(0, 1, 0, 1), 1809);
        due("1: A", x.rules(0, 1, 1, 0) * 100 + x.rules(0, 1, 1, 1), 1809);
        due("2: A, C has 9 still", x.rules(0, 1, 2, 0) * 100 + x.rules(0, 1, 2, 1), 1809);
        due("2, two: A and C", x.rules(0, 2, 2, 0) * 100 + x.rules(0, 2, 2, 1), 1607);
        due("1, two: A and B", x.rules(0, 2, 1, 0) * 100 + x.rules(0, 2, 1, 1), 1609);
        sentence = "who has no HUNGER takes no portion, by any rule";
        LeastHungry y = hungers(0, 0, 1, 0, 3);
        for (int rule = 0; rule <= 2; rule++) {
            due("rule " + rule + ", two portions", y.rules(0, 2, rule, 0), 1);
            due("rule " + rule + ", nine", y.rules(0, 9, rule, 1), 1);
        }
        due("1, one portion: C", y.rules(0, 1, 1, 0), 3);
        due("2, one portion: E", y.rules(0, 1, 2, 0), 2);
        sentence = "each FEINT as it is (found out by rule 0 alone)";
        LeastHungry z = one(9, 5);
        z.keen(4);
        due("0", z.rules(0, 1, 0, 0), 9);
        due("1", z.rules(0, 1, 1, 0), 7);
        due("2", z.rules(0, 1, 2, 0), 7);
        LeastHungry w = hungers(4, 0);
        w.guest(1, 6, 9, 0);
        due("2 is by hunger, not by what is shown: B", w.rules(0, 1, 2, 1), 4);
        due("0 is by what is shown: B", w.rules(0, 1, 0, 1), 4);
        due("1 is by letters: A", w.rules(0, 1, 1, 1), 6);
    }

    static void sights() {
        sentence = "SIGHTS, 8 at most; FULL";
        LeastHungry x = hungers(1);
        for (int i = 1; i <= 8; i++) {
            due("sight " + i, x.seen(i, 1), i);
        }
        due("sight 9", x.seen(1, 1), FULL);
        due("told(3)", x.told(3), 8);
        due("a wrong ninth", x.seen(10, 1), OUTSIDE);
        due("they count, all", x.worlds(-1, 0), 5);
        due("forget", x.forget(), 8);
        due("forget again", x.forget(), 0);
        due("they are gone", x.worlds(-1, 0), 6);
        due("room again", x.seen(9, 1), 1);
        sentence = "p, the set 0 to 63";
        due("set 0", x.seen(1, 0), 2);
        due("set 63", x.seen(9, 63), 3);
        due("set 64", x.seen(1, 64), OUTSIDE);
        due("set -1", x.seen(1, -1), OUTSIDE);
        due("p 0", x.seen(0, 0), OUTSIDE);
        due("p 10", x.seen(10, 0), OUTSIDE);
        due("told(3)", x.told(3), 3);
        sentence = "the eighth SIGHT is one of all SIGHTS";
        LeastHungry y = hungers(1);
        for (int i = 1; i <= 7; i++) {
            y.seen(i, 1);
        }
        due("seven alike", y.worlds(-1, 0), 5);
        y.seen(1, 0);
        due("the eighth is not", y.worlds(-1, 0), 0);
    }

    static void worlds() {
        sentence = "rows of HUNGERS (0 to 5 each) of those who are in HOUSE 0 (4 at most)";
        int count = 1;
        for (int n = 0; n <= 4; n++) {
            due(n + " guests", hungers(new int[n]).worlds(-1, 0), count);
            count *= 6;
        }
        due("5 guests", hungers(0, 0, 0, 0, 0).worlds(-1, 0), FULL);
        due("5 guests, of one", hungers(0, 0, 0, 0, 0).worlds(4, 1), FULL);
        due("6 guests", hungers(0, 0, 0, 0, 0, 0).worlds(-1, 1), FULL);
        LeastHungry x = hungers(20, 20, 20, 20);
        x.guest(4, 1, 0, 1);
        x.guest(5, 1, 0, 2);
        due("four, two are elsewhere", x.worlds(-1, 0), 1296);
        due("the least", x.worlds(3, 0), 0);
        due("the greatest", x.worlds(3, 1), 5);
        sentence = "UNKNOWN: he is not in HOUSE 0";
        due("in house b", x.worlds(4, 0), UNKNOWN);
        due("in house c", x.worlds(5, 1), UNKNOWN);
        due("guest 6", x.worlds(6, 0), UNKNOWN);
        due("guest -2", x.worlds(-2, 0), UNKNOWN);
        due("guest LOW", x.worlds(LOW, 0), UNKNOWN);
        x.leave(0);
        due("who left", x.worlds(0, 0), UNKNOWN);
        sentence = "NONE";
        x.seen(1, 1);
        due("who left was served: none fits", x.worlds(-1, 0), 0);
        due("the least", x.worlds(1, 0), NONE);
        due("the greatest", x.worlds(1, 1), NONE);
        sentence = "just a set was served";
        LeastHungry y = hungers(1, 1);
        y.seen(2, 1);
        due("A alone of two portions: B has none", y.worlds(1, 0) * 10 + y.worlds(1, 1), 0);
        due("A has some", y.worlds(0, 0) * 10 + y.worlds(0, 1), 15);
        y.forget();
        y.seen(1, 3);
        due("two by one portion", y.worlds(-1, 0), 0);
        sentence = "FEINTS as they are";
        LeastHungry z = one(20, 3);
        z.keen(2);
        z.seen(1, 1);
        due("served, so not found out: 1 or 2", z.worlds(0, 0) * 10 + z.worlds(0, 1), 12);
        z.forget();
        z.seen(1, 0);
        due("not served: 0, or found out", z.worlds(-1, 0), 4);
        sentence = "nobody is in HOUSE 0: the row of none";
        LeastHungry none = new LeastHungry();
        none.seen(9, 0);
        due("nobody was served", none.worlds(-1, 0), 1);
        none.seen(9, 32);
        due("F was", none.worlds(-1, 0), 0);
    }

    static void tells() {
        sentence = "the DISH (1 to 9 portions) by which fewest are left at the most: the least; how many";
        due("nobody: all alike, the least", new LeastHungry().tells(0), 1);
        due("nobody: the row of none", new LeastHungry().tells(1), 1);
        due("one: all alike, the least", hungers(9).tells(0), 1);
        due("one", hungers(9).tells(1), 5);
        due("two", hungers(9, 9).tells(0) * 1000 + hungers(9, 9).tells(1), 1020);
        due("three", hungers(9, 9, 9).tells(0) * 1000 + hungers(9, 9, 9).tells(1), 2080);
        sentence = "NONE: there are no WORLDS";
        LeastHungry x = hungers(1);
        x.seen(1, 0);
        due("one world", x.tells(0) * 10 + x.tells(1), 11);
        x.seen(1, 1);
        due("none", x.tells(0), NONE);
        due("none", x.tells(1), NONE);
        sentence = "FULL, likewise";
        due("four", hungers(1, 1, 1, 1).tells(0) > 0 ? 1 : 0, 1);
        due("five", hungers(1, 1, 1, 1, 1).tells(0), FULL);
        due("five", hungers(1, 1, 1, 1, 1).tells(1), FULL);
        due("OUTSIDE ahead of FULL", hungers(1, 1, 1, 1, 1).tells(2), OUTSIDE);
    }

    static void portions() {
        sentence = "a number of six digits, the highest the first's, noughts ahead if it is less";
        LeastHungry x = hungers(1, 2, 3, 4, 5, 6);
        due("0", x.portions(0, 0), 1);
        due("999999", x.portions(999999, 0), 1);
        due("1: the sixth has most", x.portions(1, 0), 1);
        due("10: the fifth; F would", x.portions(10, 1), 5);
        due("100: the fourth; E would", x.portions(100, 1), 4);
        due("1000: the third; D would", x.portions(1000, 1), 3);
        due("10000: the second; C would", x.portions(10000, 1), 2);
        due("100000: the first; B would", x.portions(100000, 1), 1);
        due("100000", x.portions(100000, 0), 0);
        due("111112", x.portions(111112, 0), 1);
        due("111121: F would", x.portions(111121, 1), 5);
        due("1000000", x.portions(1000000, 0), OUTSIDE);
        due("-1", x.portions(-1, 0), OUTSIDE);
        sentence = "by any FEINT of his alone (1 to 9, as much of it as counts)";
        due("9 is enough", hungers(1, 9).portions(100000, 1), 1);
        due("9 is enough", hungers(2, 10).portions(100000, 1), 1);
        due("10 is not", hungers(2, 11).portions(100000, 1), NONE);
        due("as much as counts: B shows 0 at least, A 1", hungers(1, 1).portions(100000, 1), 1);
        due("1 is enough, 2 is too much", hungers(1, 3, 3).portions(121000, 1), 2);
        due("a tie is the first's, so 9 is not enough", hungers(1, 10).portions(100000, 1), NONE);
        due("a tie is enough for the first", hungers(10, 1).portions(100000, 1), 0);
    }

    static void portionsOfWhom() {
        sentence = "those who are there and have HUNGER above 0";
        due("nobody: none would", new LeastHungry().portions(100000, 0), 1);
        due("nobody", new LeastHungry().portions(100000, 1), NONE);
        due("hunger 0 has no place and would have nothing", hungers(0, 5).portions(120000, 1), NONE);
        due("one alone", hungers(5).portions(123456, 1), NONE);
        LeastHungry x = hungers(1);
        x.guest(1, 2, 0, 1);
        due("of house 0 alone", x.portions(100000, 1), NONE);
        x.guest(1, 2, 0, 0);
        due("B would", x.portions(100000, 1), 1);
        sentence = "all showing it truly; nobody is found out";
        LeastHungry y = hungers(3, 2);
        y.guest(0, 3, 9, 0);
        y.keen(0);
        due("A's feint as it is does not matter: he would", y.portions(100000, 1), 0);
        sentence = "the first GUEST who would (NONE)";
        due("B and C would", hungers(1, 2, 3).portions(100000, 1), 1);
        due("none would", hungers(1, 2, 3).portions(111000, 1), NONE);
    }

    static void seats() {
        sentence = "how many (place = -1; 1, if nobody is there: the row of none)";
        int count = 1;
        for (int n = 0; n <= 6; n++) {
            count *= Math.max(1, n);
            LeastHungry x = hungers(new int[n]);
            due(n + " guests", x.seats(0, -1), count);
            for (int place = 0; place <= n; place++) {
                due("place " + place + " of " + n, x.seats(0, place), place < n ? place : NONE);
            }
        }
        sentence = "NONE (place below -1, too)";
        LeastHungry x = hungers(1, 1);
        due("place -2", x.seats(0, -2), NONE);
        due("place LOW", x.seats(0, LOW), NONE);
        due("place HIGH", x.seats(0, HIGH), NONE);
        due("place 2", x.seats(0, 2), NONE);
        sentence = "the first (by letters): who sits at a place";
        LeastHungry late = hungers(1, 1, 1);
        late.feud(1, 2, true);
        due("A must sit between", late.seats(0, -1), 2);
        due("B, though A is ahead of him by letters", late.seats(0, 0), 1);
        due("A", late.seats(0, 1), 0);
        due("C", late.seats(0, 2), 2);
        sentence = "no two with a feud sit side by side";
        x.feud(0, 1, true);
        due("two with a feud: no row", x.seats(0, -1), 0);
        due("nobody sits", x.seats(0, 0), NONE);
        due("nobody sits", x.seats(0, 1), NONE);
        x.guest(2, 0, 0, 0);
        due("a third between them", x.seats(0, -1), 2);
        due("A", x.seats(0, 0), 0);
        due("C", x.seats(0, 1), 2);
        due("B", x.seats(0, 2), 1);
        x.guest(1, 1, 0, 1);
        due("a feud over two houses is nothing", x.seats(0, -1), 2);
        due("alone", x.seats(1, -1), 1);
        x.guest(1, 1, 0, 0);
        due("who is there anew keeps his feuds", x.seats(0, -1), 2);
    }

    static void odds(LeastHungry x, int guest, int p, int t, long upper, long lower) {
        String call = "belch(" + guest + ", " + p + ", " + t + ")";
        due(call + " upper", x.belch(guest, p, t, 0), upper);
        due(call + " lower", x.belch(guest, p, t, 1), lower);
    }

    static void belch() {
        sentence = "Fractions are told in lowest terms";
        LeastHungry x = hungers(3, 0);
        x.guest(1, 5, 3, 0);
        int[] up = {1, 9, 4, 7, 3, 1, 2, 3, 1, 1, 0};
        int[] low = {1, 10, 5, 10, 5, 2, 5, 10, 5, 10, 1};
        for (int t = 0; t <= 10; t++) {
            odds(x, 1, 1, t, up[t], low[t]);
            odds(x, 0, 1, t, low[t] - up[t], low[t]);
        }
        odds(x, 1, 2, 5, 1, 1);
        sentence = "t tenths (0 to 10)";
        due("t 11", x.belch(1, 1, 11, 0), LeastHungry.LOST + OUTSIDE);
        due("t -1", x.belch(1, 1, -1, 0), LeastHungry.LOST + OUTSIDE);
        due("part 2", x.belch(1, 1, 0, 2), LeastHungry.LOST + OUTSIDE);
        due("not there", x.belch(2, 1, 0, 0), LeastHungry.LOST + UNKNOWN);
        sentence = "who has FEINT above 0";
        odds(hungers(3, 3), 0, 1, 5, 1, 1);
        odds(hungers(3, 3), 1, 1, 5, 0, 1);
        sentence = "each by himself";
        LeastHungry six = new LeastHungry();
        for (int g = 0; g < 6; g++) {
            six.guest(g, 20, 1, 0);
        }
        odds(six, 5, 1, 9, 59049, 1000000);
        odds(six, 5, 5, 1, 368559, 1000000);
        odds(six, 0, 6, 3, 1, 1);
        sentence = "KEEN is nothing here";
        LeastHungry y = one(9, 9);
        y.keen(0);
        odds(y, 0, 1, 5, 1, 1);
        sentence = "a GUEST without HUNGER is not served";
        odds(one(0, 9), 0, 9, 5, 0, 1);
    }

    static void host() {
        sentence = "the greatest v (9, if no DISH is on it)";
        LeastHungry x = hungers(19);
        due("an empty pad", x.host(), 9);
        night(x, "...");
        due("hours", x.host(), 9);
        sentence = "nobody is STARVED who would not be by v of 0";
        for (int p = 1; p <= 9; p++) {
            night(x, "a" + p + ".");
            due("a" + p + ".", x.host(), p - 1);
        }
        night(x, "a9");
        due("19 is not starved", x.host(), 9);
        night(x, "a9...");
        due("by v of 0, too", x.host(), 9);
        night(x, "a1a9..");
        due("the second is enough", x.host(), 8);
        night(x, "a3a5...");
        due("both are wanted", x.host(), 2);
        LeastHungry y = hungers(20, 20);
        night(y, "a9");
        due("all are starved but by the dish", y.host(), 7);
        night(y, "a1");
        due("one of two", y.host(), 0);
        due("who is STARVED by v of 0 may be so by any", withNight(hungers(10, 20), "a1").host(), 9);
        LeastHungry z = hungers(10, 18, 8);
        z.guest(1, 18, 7, 0);
        z.guest(2, 8, 9, 0);
        z.keen(8);
        night(z, "a5..a5.a4a4a1...a5.");
        due("the greatest, though by 3 more are STARVED than by 4", z.host(), 4);
        sentence = "A DISH of no more portions than v is nothing to them, but it came";
        due("by v of 9 each is", withNight(hungers(5), "a1a9").host(), 9);
        due("nobody there: it could not come", withNight(hungers(5), "b1").host(), NO);
    }

    static void year() {
        sentence = "x becomes (75 x and 74) left over by 65537";
        LeastHungry x = new LeastHungry();
        x.guest(1, 9, 0, 0);
        due("872 becomes 65474: B's, but it is C's feint", x.year(872, 1, 2), 9);
        due("873 becomes 12: an hour", x.year(873, 1, 2), 10);
        due("20 hungers at most", hungers(20).year(873, 1, 2), 20);
        sentence = "a seed (0 to 9999), m ACTS (1 to 99)";
        due("seed 0", x.year(0, 1, 2), 9);
        due("seed 9999 becomes 29092: an hour", x.year(9999, 1, 2), 10);
        due("seed 10000", x.year(10000, 1, 2), OUTSIDE);
        due("seed -1", x.year(-1, 1, 2), OUTSIDE);
        due("m 0", x.year(0, 0, 2), OUTSIDE);
        due("m 100", x.year(0, 100, 2), OUTSIDE);
        due("m 99", new LeastHungry().year(9999, 99, 2), 0);
        sentence = "Nothing is DONE in fact";
        x.year(77, 99, 0);
        due("hunger", x.state(1, 0), 9);
        due("feint", x.told(11), 0);
        due("house", x.state(1, 2), 0);
        sentence = "portions served; LEFT over; HUNGER of all together then, of nobody";
        for (int what = 0; what <= 2; what++) {
            due("what " + what, new LeastHungry().year(123, 99, what), 0);
        }
    }

    /** A year is told act by act on a second object, whose nights hold one act each. */
    static void yearActs() {
        sentence = "an hour, he goes, a FEINT, a DISH: as the same ACTS of NIGHTS";
        int[] seeds = {0, 1, 872, 873, 1071, 1959, 4711, 9998, 9999};
        for (int seed : seeds) {
            LeastHungry x = five();
            LeastHungry y = five();
            int served = 0;
            int left = 0;
            int said = 0;
            long drawn = seed;
            for (int m = 1; m <= 50; m++) {
                drawn = (75 * drawn + 74) % 65537;
                night(y, actOf(drawn));
                int waste = y.waste(0);
                int portions = drawn % 4 == 3 ? (int) (1 + drawn / 4 % 9) : 0;
                if (waste != NO) {
                    left += waste;
                    served += portions - waste;
                    y.done();
                    said++;
                }
                due("year(" + seed + ", " + m + ", 0)", x.year(seed, m, 0), served);
                due("year(" + seed + ", " + m + ", 1)", x.year(seed, m, 1), left);
            }
            int hunger = 0;
            for (int g = 0; g < 6; g++) {
                hunger += Math.max(0, y.state(g, 0));
            }
            due("year(" + seed + ", 50, 2)", x.year(seed, 50, 2), hunger);
            due("some acts could be", said > 25 ? 1 : 0, 1);
        }
    }

    static String actOf(long x) {
        char guest = (char) ('A' + x / 4 % 6);
        switch ((int) (x % 4)) {
            case 0:
                return ".";
            case 1:
                return "" + guest + (char) ('a' + x / 32 % 3);
            case 2:
                return "" + guest + x / 32 % 10;
            default:
                return "" + (char) ('a' + x / 64 % 3) + (1 + x / 4 % 9);
        }
    }

    /** All but C, with feints of which some are found out. */
    static LeastHungry five() {
        LeastHungry x = hungers(4, 7, 2, 9, 0, 3);
        x.guest(1, 7, 6, 1);
        x.guest(3, 9, 3, 1);
        x.leave(2);
        x.keen(5);
        return x;
    }

    static void images() {
        sentence = "It is as it was when it was kept: 1; STATE: it was not";
        LeastHungry x = new LeastHungry();
        due("restore(0)", x.restore(0), STATE);
        due("restore(1)", x.restore(1), STATE);
        due("image(1) of nobody", x.image(1), 1);
        due("restore(0)", x.restore(0), STATE);
        x.guest(0, 5, 3, 2);
        x.guest(5, 20, 0, 0);
        x.feud(0, 5, true);
        x.seen(1, 32);
        x.keen(2);
        due("image(0)", x.image(0), 1);
        due("restore(1): nobody is there", x.restore(1), 1);
        due("guests", x.told(1), 0);
        due("feuds", x.told(4), 0);
        due("sights", x.told(3), 0);
        due("keen", x.told(2), 9);
        due("restore(0)", x.restore(0), 1);
        due("guests", x.told(1), 33);
        due("feuds", x.told(4), 1);
        due("sights", x.told(3), 1);
        due("keen", x.told(2), 2);
        due("hunger, house, feint", x.state(0, 0) * 100 + x.state(0, 2) * 10 + x.told(10), 523);
        sentence = "an IMAGE is kept anew";
        x.leave(0);
        due("image(0)", x.image(0), 1);
        x.guest(0, 1, 1, 1);
        due("restore(0)", x.restore(0), 1);
        due("guests", x.told(1), 32);
        due("feuds", x.told(4), 0);
        sentence = "All but the PAD";
        night(x, "..");
        x.image(0);
        x.say('!');
        due("restore(0)", x.restore(0), 1);
        due("signs", x.told(0), 3);
        due("the fault", x.fault(), 2);
        x.wipe();
        x.restore(0);
        due("signs", x.told(0), 0);
        sentence = "an IMAGE (0, 1)";
        due("image(2)", x.image(2), OUTSIDE);
        due("image(-1)", x.image(-1), OUTSIDE);
        due("restore(2)", x.restore(2), OUTSIDE);
        due("restore(-1)", x.restore(-1), OUTSIDE);
    }

    static void told() {
        sentence = "10 and a GUEST who is there: his FEINT; OUTSIDE";
        LeastHungry x = hungers(1, 1, 1, 1, 1, 1);
        for (int g = 0; g < 6; g++) {
            x.guest(g, 1, g + 4, 1);
            due("told(" + (10 + g) + ")", x.told(10 + g), g + 4);
        }
        x.leave(5);
        due("who left", x.told(15), OUTSIDE);
        int[] bad = {LOW, -1, 5, 6, 7, 8, 9, 16, 17, HIGH};
        for (int what : bad) {
            due("told(" + what + ")", x.told(what), OUTSIDE);
        }
        sentence = "0 signs, 1 GUESTS (bits), 2 KEEN, 3 SIGHTS, 4 feuds";
        due("told(1)", x.told(1), 31);
        night(x, "..");
        due("told(0)", x.told(0), 2);
        due("told(2)", x.told(2), 9);
        due("told(3)", x.told(3), 0);
        due("told(4)", x.told(4), 0);
    }

    /** Hunger, feint, house of each, in the order of their letters. */
    static final int[][][] TABLES = {
        {{5, 0, 0}, {3, 2, 0}, {8, 6, 0}, {20, 9, 0}},
        {{19, 0, 0}, {19, 4, 0}, {2, 1, 1}, {0, 9, 0}},
        {{1, 3, 0}, {4, 6, 0}, {4, 0, 0}},
        {{7, 7, 2}, {7, 2, 0}},
        {{12, 3, 0}},
        {{18, 9, 1}}
    };

    static LeastHungry table(int[][] guests, int shift) {
        LeastHungry x = new LeastHungry();
        x.keen(5);
        for (int g = 0; g < guests.length; g++) {
            x.guest(g + shift, guests[g][0], guests[g][1], guests[g][2]);
        }
        return x;
    }

    static int moved(int guest, int shift) {
        return guest < 0 ? guest : guest + shift;
    }

    static void letters() {
        sentence = "GUESTS 0 to 5 (A to F): as the first letters, so the last, and those between";
        for (int[][] guests : TABLES) {
            for (int shift = 1; shift + guests.length <= 6; shift++) {
                lettersOfDishes(guests, table(guests, 0), table(guests, shift), shift);
                lettersOfNights(guests, table(guests, 0), table(guests, shift), shift);
                lettersOfWorlds(guests, table(guests, 0), table(guests, shift), shift);
                lettersOfSeats(guests, table(guests, 0), table(guests, shift), shift);
            }
        }
    }

    static void lettersOfDishes(int[][] guests, LeastHungry x, LeastHungry y, int shift) {
        String by = " by " + shift;
        due("told(1)" + by, y.told(1), x.told(1) << shift);
        for (int p = 1; p <= 5; p++) {
            due("served" + by, y.served(0, p), x.served(0, p) << shift);
            for (int i = -1; i <= 2; i++) {
                due("rests" + by, y.rests(0, p, i), x.rests(0, p, i));
            }
            for (int rule = 0; rule <= 2; rule++) {
                due("rules" + by, y.rules(0, p, rule, 0), x.rules(0, p, rule, 0));
                due("rules" + by, y.rules(0, p, rule, 1), x.rules(0, p, rule, 1));
            }
            for (int g = 0; g < guests.length; g++) {
                due("feign" + by, y.feign(g + shift, p), x.feign(g, p));
                due("belch" + by, y.belch(g + shift, p, 3, 0), x.belch(g, p, 3, 0));
                due("belch" + by, y.belch(g + shift, p, 3, 1), x.belch(g, p, 3, 1));
            }
        }
        for (int number : new int[] {210000, 310000, 132000, 112100, 543210, 100000}) {
            due("portions" + by, y.portions(number, 0), x.portions(number, 0));
            due("portions" + by, y.portions(number, 1), moved(x.portions(number, 1), shift));
        }
    }

    static void lettersOfNights(int[][] guests, LeastHungry x, LeastHungry y, int shift) {
        String[] nights = {".", "a1.a2", "a3..Bba1B0b1", "A9.a1a1Aca2", "D2.a4.a4", "....a2C0a1...", "AaBaCaDa"};
        for (String night : nights) {
            String told = night;
            for (char c = 'D'; c >= 'A'; c--) {
                told = told.replace(c, (char) (c + shift));
            }
            if (told.matches(".*[G-Z].*")) {
                continue;
            }
            night(x, night);
            night(y, told);
            String call = "'" + night + "' by " + shift;
            due(call + " judge", y.judge(0) * 10 + y.judge(1), x.judge(0) * 10 + x.judge(1));
            due(call + " left", y.waste(0), x.waste(0));
            due(call + " untouched", y.waste(1), x.waste(1));
            due(call + " starved", y.waste(2), x.waste(2) == NO ? NO : x.waste(2) << shift);
            due(call + " host", y.host(), x.host());
            for (int g = 0; g < guests.length; g++) {
                for (int what = 0; what <= 3; what++) {
                    due(call + " behind", y.behind(g + shift, what), x.behind(g, what));
                }
            }
        }
    }

    static void lettersOfWorlds(int[][] guests, LeastHungry x, LeastHungry y, int shift) {
        int[][] sights = {{9, 0}, {1, 1}, {2, 1}, {3, 3}};
        for (int[] sight : sights) {
            if (sight[1] << shift > 63) {
                continue;
            }
            String call = "seen(" + sight[0] + ", " + sight[1] + ") by " + shift;
            due(call, y.seen(sight[0], sight[1] << shift), x.seen(sight[0], sight[1]));
            due(call + " worlds", y.worlds(-1, 0), x.worlds(-1, 0));
            due(call + " tells", y.tells(0) * 10000 + y.tells(1), x.tells(0) * 10000 + x.tells(1));
            for (int g = 0; g < guests.length; g++) {
                due(call + " the least", y.worlds(g + shift, 0), x.worlds(g, 0));
                due(call + " the greatest", y.worlds(g + shift, 1), x.worlds(g, 1));
            }
            x.forget();
            y.forget();
        }
        due("tells by " + shift, y.tells(0) * 10000 + y.tells(1), x.tells(0) * 10000 + x.tells(1));
    }

    static void lettersOfSeats(int[][] guests, LeastHungry x, LeastHungry y, int shift) {
        for (int g = 0; g < guests.length; g++) {
            int other = (g + 1) % guests.length;
            due("feud by " + shift, y.feud(g + shift, other + shift, true), x.feud(g, other, true));
            for (int place = -1; place <= guests.length; place++) {
                int sits = x.seats(0, place);
                due("seats by " + shift, y.seats(0, place), place < 0 ? sits : moved(sits, shift));
            }
            for (int m = 0; m <= 3; m++) {
                due("round by " + shift, y.round(g + shift, m, 213, 0), x.round(g, m, 213, 0));
                due("round by " + shift, y.round(g + shift, m, 213, 1), x.round(g, m, 213, 1));
            }
        }
    }

    /** A, B, D in one house, C and E, who would come first, in the next one, F in the third. */
    static LeastHungry parted(int house) {
        LeastHungry x = new LeastHungry();
        x.keen(5);
        x.guest(0, 9, 0, house);
        x.guest(1, 7, 4, house);
        x.guest(2, 1, 1, (house + 1) % 3);
        x.guest(3, 9, 6, house);
        x.guest(4, 2, 0, (house + 1) % 3);
        x.guest(5, 20, 9, (house + 2) % 3);
        x.feud(0, 1, true);
        x.feud(3, 2, true);
        return x;
    }

    static void houses() {
        sentence = "HOUSES 0 to 2 (a to c): as the first, so the others";
        for (int house = 0; house <= 2; house++) {
            LeastHungry x = parted(house);
            due("one portion: B", x.served(house, 1), 2);
            due("nine: D is found out", x.served(house, 9), 3);
            due("the next house", x.served((house + 1) % 3, 1), 4);
            due("the third house: F is found out", x.served((house + 2) % 3, 1), 0);
            due("A would be ahead of B only found out", x.feign(0, 1), NONE);
            due("D by no feint", x.feign(3, 2), 1);
            due("D is found out by rule 0", x.rules(house, 3, 0, 0) * 100 + x.rules(house, 3, 0, 1), 2109);
            due("by letters", x.rules(house, 1, 1, 0) * 100 + x.rules(house, 1, 1, 1), 2309);
            due("most hunger", x.rules(house, 2, 2, 0) * 100 + x.rules(house, 2, 2, 1), 2107);
            due("all three", x.rules(house, 3, 1, 0) * 100 + x.rules(house, 3, 1, 1), 1907);
            due("the next house", x.rules((house + 1) % 3, 9, 0, 0), 0);
            due("D sits between", x.seats(house, -1), 2);
            due("A is first", x.seats(house, 0) * 100 + x.seats(house, 1) * 10 + x.seats(house, 2), 31);
            due("no feud in the next house", x.seats((house + 1) % 3, -1), 2);
            due("F alone", x.seats((house + 2) % 3, 0), 5);
            odds(x, 1, 1, 2, 21, 25);
            due("three of three portions: one row at rest", x.rests(house, 3, -1) * 10 + x.rests(house, 3, 0), 10);
            night(x, (char) ('a' + house) + "9");
            due("left", x.waste(0), 7);
            due("D is found out", x.behind(3, 2), 1);
            due("F is not there", x.behind(5, 2), 0);
        }
    }
}
