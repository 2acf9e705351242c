/** Each promise by hand: ordinary inputs, the edges that the document names, wrong inputs. */
public final class PromiseTest {
    static final int NONE = -6, UNKNOWN = -1, OUTSIDE = -2, STATE = -3, FULL = -4, NO = -5;
    static final int LOW = Integer.MIN_VALUE, HIGH = Integer.MAX_VALUE;

    static int wrong = 0;
    static String promise = "";

    static void due(String call, long got, long want) {
        if (got != want) {
            wrong++;
            System.out.println(promise + ": " + call + " answered " + got + ", due is " + want);
        }
    }

    static void say(LeastHungry x, String night) {
        x.wipe();
        for (int i = 0; i < night.length(); i++) {
            x.say(night.charAt(i));
        }
    }

    /** A 5, B 3, C 8 who shows 2, all in house a. */
    static LeastHungry three() {
        LeastHungry x = new LeastHungry();
        x.guest(0, 5, 0, 0);
        x.guest(1, 3, 0, 0);
        x.guest(2, 8, 6, 0);
        return x;
    }

    /** A, B and so on in house a, without feints. */
    static LeastHungry hungers(int... hungers) {
        LeastHungry x = new LeastHungry();
        for (int g = 0; g < hungers.length; g++) {
            x.guest(g, hungers[g], 0, 0);
        }
        return x;
    }

    public static void main(String[] args) {
        newObject();
        guest();
        leave();
        keen();
        feud();
        sayAndWipe();
        fault();
        judge();
        done();
        state();
        behind();
        waste();
        served();
        feign();
        rests();
        round();
        rules();
        seenAndForget();
        worlds();
        tells();
        portions();
        seats();
        belch();
        host();
        year();
        imageAndRestore();
        told();
        System.out.println(wrong == 0 ? "all promises are kept" : wrong + " answers are not as due");
        if (wrong != 0) {
            System.exit(1);
        }
    }

    static void newObject() {
        promise = "1 a new object";
        LeastHungry x = new LeastHungry();
        due("signs", x.told(0), 0);
        due("guests", x.told(1), 0);
        due("keen", x.told(2), 9);
        due("sights", x.told(3), 0);
        due("feuds", x.told(4), 0);
        for (int g = 0; g < 6; g++) {
            due("state(" + g + ", 0)", x.state(g, 0), UNKNOWN);
        }
        due("restore(0)", x.restore(0), STATE);
        due("restore(1)", x.restore(1), STATE);
        due("constants", LeastHungry.NONE * 100000L + LeastHungry.UNKNOWN * 10000 + LeastHungry.OUTSIDE * 1000
                + LeastHungry.STATE * 100 + LeastHungry.FULL * 10 + LeastHungry.NO, -612345L);
        due("LOST", LeastHungry.LOST, -1000000000000000000L);
    }

    static void guest() {
        promise = "2 guest";
        LeastHungry x = new LeastHungry();
        due("the first", x.guest(5, 20, 9, 2), 1);
        due("the second", x.guest(0, 0, 0, 0), 2);
        due("anew", x.guest(5, 7, 3, 1), 2);
        due("hunger anew", x.state(5, 0), 7);
        due("shown anew", x.state(5, 1), 4);
        due("house anew", x.state(5, 2), 1);
        due("feint anew", x.told(15), 3);
        for (int bad : new int[] {-1, 6, 31, 32, LOW, HIGH}) {
            due("guest(" + bad + ", 99, 0, 0)", x.guest(bad, 99, 0, 0), UNKNOWN);
        }
        for (int bad : new int[] {-1, 21, LOW, HIGH}) {
            due("hunger " + bad, x.guest(5, bad, 0, 0), OUTSIDE);
        }
        for (int bad : new int[] {-1, 10, LOW, HIGH}) {
            due("feint " + bad, x.guest(5, 0, bad, 0), OUTSIDE);
        }
        for (int bad : new int[] {-1, 3, LOW, HIGH}) {
            due("house " + bad, x.guest(5, 0, 0, bad), OUTSIDE);
        }
        due("unchanged", x.state(5, 0), 7);
        due("nobody came", x.told(1), 33);
        x.feud(0, 5, true);
        x.guest(5, 1, 0, 0);
        due("feuds stay when he is there anew", x.told(4), 1);
    }

    static void leave() {
        promise = "3 leave";
        LeastHungry x = three();
        x.feud(0, 1, true);
        x.feud(1, 2, true);
        x.feud(0, 2, true);
        due("leave(1)", x.leave(1), 2);
        due("his feuds go", x.told(4), 1);
        due("who is there", x.told(1), 5);
        due("again", x.leave(1), UNKNOWN);
        due("state", x.state(1, 0), UNKNOWN);
        due("leave(-1)", x.leave(-1), UNKNOWN);
        due("leave(6)", x.leave(6), UNKNOWN);
        due("leave(32)", x.leave(32), UNKNOWN);
        due("leave(LOW)", x.leave(LOW), UNKNOWN);
        due("not served", x.served(0, 9), 5);
        due("leave(0)", x.leave(0), 1);
        due("leave(2)", x.leave(2), 0);
        x.guest(0, 1, 0, 0);
        x.guest(1, 1, 0, 0);
        due("feuds do not come back", x.told(4), 0);
    }

    static void keen() {
        promise = "4 keen";
        LeastHungry x = three();
        due("keen(5)", x.keen(5), 9);
        due("keen(0)", x.keen(0), 5);
        due("keen(-1)", x.keen(-1), OUTSIDE);
        due("keen(10)", x.keen(10), OUTSIDE);
        due("unchanged", x.told(2), 0);
        due("keen(6)", x.keen(6), 0);
        due("a feint as great as keen is not found out", x.served(0, 1), 4);
        x.keen(5);
        due("a greater one is", x.served(0, 1), 2);
        x.guest(2, 5, 9, 0);
        due("so much as counts", x.served(0, 1), 4);
    }

    static void feud() {
        promise = "5 feud";
        LeastHungry x = three();
        due("A and B", x.feud(0, 1, true), 1);
        due("again", x.feud(1, 0, true), 1);
        due("A and C", x.feud(2, 0, true), 2);
        due("none that was not", x.feud(1, 2, false), 2);
        due("A and B none", x.feud(1, 0, false), 1);
        due("one", x.feud(1, 1, true), UNKNOWN);
        due("not there", x.feud(0, 3, true), UNKNOWN);
        due("not there", x.feud(3, 0, false), UNKNOWN);
        due("feud(-1, 0)", x.feud(-1, 0, true), UNKNOWN);
        due("feud(0, 6)", x.feud(0, 6, true), UNKNOWN);
        due("feud(0, 33)", x.feud(0, 33, true), UNKNOWN);
        due("unchanged", x.told(4), 1);
    }

    static void sayAndWipe() {
        promise = "6 say";
        LeastHungry x = three();
        due("say(33)", x.say(33), 1);
        due("say(126)", x.say(126), 2);
        due("say(32)", x.say(32), OUTSIDE);
        due("say(127)", x.say(127), OUTSIDE);
        due("say(LOW)", x.say(LOW), OUTSIDE);
        due("say(HIGH)", x.say(HIGH), OUTSIDE);
        for (int i = 3; i <= 60; i++) {
            due("say " + i, x.say('.'), i);
        }
        due("the 61st", x.say('.'), FULL);
        due("OUTSIDE comes ahead of FULL", x.say(0), OUTSIDE);
        promise = "7 wipe";
        due("wipe", x.wipe(), 60);
        due("none", x.wipe(), 0);
        due("signs go", x.told(0), 0);
        due("say after it", x.say('.'), 1);
    }

    static void fault() {
        promise = "8 fault";
        LeastHungry x = new LeastHungry();
        String[] right = {"", ".", "a1", "c9", "A0", "F9", "Ac", "Fa", "..a1.B3Bb"};
        for (String night : right) {
            say(x, night);
            due("'" + night + "'", x.fault(), NONE);
        }
        String[] begun = {"a", "A", ".b", "a1F"};
        for (String night : begun) {
            say(x, night);
            due("'" + night + "'", x.fault(), night.length());
        }
        String[] sign = {"d", "G", "1", "!", "`", "@", "~"};
        for (String night : sign) {
            say(x, night + "a1");
            due("'" + night + "a1'", x.fault(), 0);
            say(x, ".a1" + night);
            due("'.a1" + night + "'", x.fault(), 3);
        }
        String[] second = {"a0", "a:", "aa", "aA", "a.", "A.", "AA", "Ad", "A/", "A:", "A`"};
        for (String night : second) {
            say(x, night + "..");
            due("'" + night + "..'", x.fault(), 1);
        }
    }

    static void judge() {
        promise = "9 judge";
        LeastHungry x = three();
        due("an empty pad", x.judge(0), NONE);
        due("why", x.judge(1), NONE);
        say(x, ".a1AbBbCb.a1");
        due("an act that can not be", x.judge(0), 6);
        due("why: nobody is there", x.judge(1), 3);
        say(x, "AbAaAa");
        due("he is there already", x.judge(0), 2);
        due("why", x.judge(1), 2);
        say(x, ".D3Aa");
        due("he is not at the table", x.judge(0), 1);
        due("why", x.judge(1), 1);
        say(x, "Da");
        due("the least reason", x.judge(1), 1);
        say(x, "Ab..b9A9");
        due("all can be", x.judge(0), NONE);
        due("why", x.judge(1), NONE);
        say(x, "Aad");
        due("a fault", x.judge(0), NO);
        due("OUTSIDE comes first", x.judge(2), OUTSIDE);
        due("judge(-1)", x.judge(-1), OUTSIDE);
        due("nothing is done", x.state(0, 2), 0);
    }

    static void done() {
        promise = "10 done";
        LeastHungry x = three();
        due("an empty pad", x.done(), 0);
        say(x, "A7Ab.a2b3Bc");
        due("done", x.done(), 6);
        due("the pad is empty", x.told(0), 0);
        due("A went, waited and ate", x.state(0, 0), 5);
        due("A's feint", x.told(10), 7);
        due("A shows", x.state(0, 1), 0);
        due("A is in b", x.state(0, 2), 1);
        due("B waited, ate and went", x.state(1, 0), 3);
        due("B is in c", x.state(1, 2), 2);
        due("C waited and ate", x.state(2, 0), 7);
        say(x, "Bc");
        due("can not be", x.done(), NO);
        say(x, ".B");
        due("a fault", x.done(), NO);
        due("it changes nothing", x.state(1, 0), 3);
        due("the pad too", x.told(0), 2);
        LeastHungry y = hungers(20, 19, 0);
        say(y, "Ab.");
        y.done();
        due("20 at most by going", y.state(0, 0), 20);
        due("20 at most by an hour", y.state(1, 0), 20);
        due("an hour for all", y.state(2, 0), 1);
        say(y, "a3");
        y.done();
        due("0 at least", y.state(2, 0), 0);
    }

    static void state() {
        promise = "11 state";
        LeastHungry x = three();
        due("hunger", x.state(2, 0), 8);
        due("shown", x.state(2, 1), 2);
        due("house", x.state(2, 2), 0);
        x.guest(3, 4, 9, 2);
        due("so much as hunger counts", x.state(3, 1), 0);
        due("house", x.state(3, 2), 2);
        due("UNKNOWN comes first", x.state(4, 9), UNKNOWN);
        due("state(-1)", x.state(-1, 0), UNKNOWN);
        due("state(6)", x.state(6, 0), UNKNOWN);
        due("what 3", x.state(0, 3), OUTSIDE);
        due("what -1", x.state(0, -1), OUTSIDE);
    }

    static void behind() {
        promise = "12 behind";
        LeastHungry x = three();
        x.keen(5);
        say(x, "a1.Cba2b1C5b1");
        due("A's hunger", x.behind(0, 0), 4);
        due("A's portions", x.behind(0, 1), 1);
        due("B's hunger", x.behind(1, 0), 0);
        due("B's portions", x.behind(1, 1), 2);
        due("C's hunger", x.behind(2, 0), 8);
        due("C's portions", x.behind(2, 1), 1);
        due("C found out twice", x.behind(2, 2), 2);
        due("C's house", x.behind(2, 3), 1);
        due("B not found out", x.behind(1, 2), 0);
        due("nothing is done", x.state(2, 0), 8);
        say(x, "b1");
        due("can not be", x.behind(0, 0), NO);
        say(x, "b");
        due("a fault", x.behind(0, 0), NO);
        due("OUTSIDE comes ahead of NO", x.behind(0, 4), OUTSIDE);
        due("what -1", x.behind(0, -1), OUTSIDE);
        due("UNKNOWN comes first", x.behind(3, 4), UNKNOWN);
        LeastHungry y = hungers(0, 3);
        y.guest(0, 0, 9, 0);
        y.keen(0);
        say(y, "a9");
        due("without hunger nobody is found out", y.behind(0, 2), 0);
        due("nor served", y.behind(0, 1), 0);
    }

    static void waste() {
        promise = "13 waste";
        LeastHungry x = three();
        due("an empty pad", x.waste(0), 0);
        due("no dish", x.waste(1), NONE);
        x.keen(5);
        say(x, "a9AbBb.a4.a2b9");
        due("portions left", x.waste(0), 7 + 4 + 2 + 7);
        due("the first that nobody touches", x.waste(1), 4);
        due("nobody starved", x.waste(2), 0);
        say(x, "............");
        due("C starved", x.waste(2), 4);
        x.guest(5, 20, 0, 2);
        due("and F", x.waste(2), 36);
        say(x, "b1");
        due("can not be", x.waste(0), NO);
        say(x, "0");
        due("a fault", x.waste(2), NO);
        due("OUTSIDE comes first", x.waste(3), OUTSIDE);
        due("what -1", x.waste(-1), OUTSIDE);
    }

    static void served() {
        promise = "14 served";
        LeastHungry x = hungers(4, 2, 4, 2, 0, 9);
        due("1", x.served(0, 1), 2);
        due("of several the first by letters", x.served(0, 2), 10);
        due("3", x.served(0, 3), 11);
        due("5", x.served(0, 5), 47);
        due("who has no hunger is not served", x.served(0, 9), 47);
        due("nobody there", x.served(1, 9), 0);
        x.guest(5, 9, 8, 1);
        due("another house", x.served(1, 1), 32);
        x.keen(7);
        due("found out", x.served(1, 1), 0);
        due("house 3", x.served(3, 0), UNKNOWN);
        due("house -1", x.served(-1, 1), UNKNOWN);
        due("p 0", x.served(0, 0), OUTSIDE);
        due("p 10", x.served(0, 10), OUTSIDE);
        due("nothing is eaten", x.state(1, 0), 2);
    }

    static void feign() {
        promise = "15 feign";
        LeastHungry x = hungers(5, 3, 3);
        due("A for one", x.feign(0, 1), 2);
        due("C for one must show less", x.feign(2, 1), 1);
        due("B needs none", x.feign(1, 1), 0);
        due("A for two", x.feign(0, 2), 2);
        due("A for three", x.feign(0, 3), 0);
        x.keen(1);
        due("found out", x.feign(0, 1), NONE);
        x.keen(9);
        x.guest(0, 12, 0, 0);
        due("9", x.feign(0, 1), 9);
        x.keen(9);
        x.guest(0, 14, 0, 0);
        due("too hungry", x.feign(0, 1), NONE);
        x.guest(0, 0, 0, 0);
        due("not hungry", x.feign(0, 9), NONE);
        x.guest(0, 20, 9, 2);
        due("alone elsewhere", x.feign(0, 1), 0);
        due("as it is", x.told(10), 9);
        due("not there", x.feign(3, 0), UNKNOWN);
        due("feign(-1)", x.feign(-1, 1), UNKNOWN);
        due("p 0", x.feign(0, 0), OUTSIDE);
        due("p 10", x.feign(0, 10), OUTSIDE);
    }

    static void rests() {
        promise = "16 rests";
        LeastHungry x = hungers(4, 4);
        due("two portions: how many", x.rests(0, 2, -1), 1);
        due("two portions: none feigns", x.rests(0, 2, 0), 0);
        due("one portion: B comes ahead by 3, then A, too", x.rests(0, 1, -1), 0);
        LeastHungry y = hungers(9, 11);
        due("B comes ahead by 3", y.rests(0, 1, -1), 0);
        y.guest(1, 12, 0, 0);
        due("a tie is A's", y.rests(0, 1, -1), 1);
        due("none feigns", y.rests(0, 1, 0), 0);
        y.guest(0, 1, 0, 0);
        y.guest(1, 3, 0, 0);
        due("a portion is worth 1 to A, so he does not feign", y.rests(0, 1, -1), 1);
        due("B does", y.rests(0, 1, 0), 3);
        y.guest(0, 9, 9, 0);
        y.guest(1, 9, 7, 0);
        y.keen(0);
        due("feints that are found out gain nothing", y.rests(0, 1, 0), 0);
        due("feints are as they were", y.told(10) * 10 + y.told(11), 97);
        restsOfSeveral();
        LeastHungry z = hungers(1, 1, 1, 1, 1);
        due("more than 4", z.rests(0, 1, -1), FULL);
        due("FULL, whatever i", z.rests(0, 1, -2), FULL);
        due("OUTSIDE comes first", z.rests(0, 0, 0), OUTSIDE);
        due("p 10", z.rests(0, 10, 0), OUTSIDE);
        due("UNKNOWN comes first", z.rests(3, 0, 0), UNKNOWN);
        due("nobody there: the row of none", z.rests(2, 1, -1), 1);
        due("it", z.rests(2, 1, 0), 0);
        due("no more", z.rests(2, 1, 1), NONE);
        due("i -2", z.rests(2, 1, -2), NONE);
        due("i HIGH", z.rests(2, 1, HIGH), NONE);
    }

    /** The rows rise, the least guest's digit ahead; of other houses nobody matters. */
    static void restsOfSeveral() {
        LeastHungry x = new LeastHungry();
        int[] hungers = {14, 1, 5, 5};
        for (int g = 0; g < 4; g++) {
            x.guest(g + 1, hungers[g], 0, 2);
        }
        x.guest(0, 1, 0, 0);
        due("three rows", x.rests(2, 1, -1), 3);
        due("none feigns", x.rests(2, 1, 0), 0);
        due("E for nothing", x.rests(2, 1, 1), 6);
        due("D for nothing", x.rests(2, 1, 2), 60);
        due("no fourth", x.rests(2, 1, 3), NONE);
        LeastHungry y = hungers(2, 1, 11, 1);
        due("two of four", y.rests(0, 2, -1), 2);
        LeastHungry z = new LeastHungry();
        z.guest(4, 1, 0, 0);
        z.guest(5, 3, 0, 0);
        due("F by 3, none else", z.rests(0, 1, -1) * 10 + z.rests(0, 1, 0), 13);
        due("A by 3", y.rests(0, 2, 0), 3000);
        due("A and D by 3", y.rests(0, 2, 1), 3003);
    }

    static void round() {
        promise = "17 round";
        LeastHungry x = three();
        due("no hour", x.round(0, 0, 999, 0), 5);
        due("no house", x.round(0, 0, 999, 1), NONE);
        due("stay and eat", x.round(0, 1, 300, 0), 4);
        due("where", x.round(0, 1, 300, 1), 0);
        due("go and eat", x.round(0, 1, 1, 0), 5);
        due("where", x.round(0, 1, 1, 1), 2);
        due("the first row that does so", x.round(0, 1, 11, 1), 1);
        due("nothing anywhere", x.round(0, 5, 0, 0), 10);
        due("stay, then", x.round(0, 5, 0, 1), 0);
        due("three of five hours", x.round(2, 4, 901, 0), 4);
        due("go where nobody is ahead", x.round(0, 2, 110, 0), 4);
        due("where", x.round(0, 2, 110, 1), 1);
        LeastHungry y = hungers(20);
        due("20 at most", y.round(0, 1, 10, 0), 19);
        due("an hour at 20", y.round(0, 2, 0, 0), 20);
        LeastHungry z = three();
        z.keen(5);
        due("found out everywhere", z.round(2, 3, 999, 0), 11);
        due("unchanged", z.state(2, 0), 8);
        due("not there", x.round(3, 6, 0, 0), UNKNOWN);
        due("round(-1)", x.round(-1, 0, 0, 0), UNKNOWN);
        due("m 6", x.round(0, 6, 0, 0), OUTSIDE);
        due("m -1", x.round(0, -1, 0, 0), OUTSIDE);
        due("portions 1000", x.round(0, 0, 1000, 0), OUTSIDE);
        due("portions -1", x.round(0, 0, -1, 0), OUTSIDE);
        due("what 2", x.round(0, 0, 0, 2), OUTSIDE);
        due("what -1", x.round(0, 0, 0, -1), OUTSIDE);
    }

    static void rules() {
        promise = "18 rules";
        LeastHungry x = three();
        due("least shown: all", x.rules(0, 1, 0, 0), 14);
        due("least shown: the greatest", x.rules(0, 1, 0, 1), 6);
        due("by letters: the greatest", x.rules(0, 1, 1, 1), 8);
        due("most hunger: the greatest", x.rules(0, 1, 2, 1), 6);
        due("by letters, two: B has 1", x.rules(0, 2, 1, 0), 12);
        x.keen(5);
        due("found out by rule 0", x.rules(0, 3, 0, 0), 12);
        due("by rule 1 not", x.rules(0, 3, 1, 0), 10);
        due("by rule 2 not", x.rules(0, 1, 2, 1), 6);
        LeastHungry y = hungers(1, 0, 7, 7);
        y.guest(4, 20, 0, 1);
        due("a portion of 1", y.rules(0, 1, 0, 0), 14);
        due("the greatest is the first", hungers(9, 2).rules(0, 1, 0, 1), 9);
        due("no hunger takes no portion by letters", y.rules(0, 2, 1, 0), 12);
        due("of several the first by letters", y.rules(0, 1, 2, 1), 7);
        due("both", y.rules(0, 2, 2, 1), 5);
        due("another house", y.rules(1, 1, 1, 0), 18);
        due("of nobody", y.rules(2, 9, 0, 0), 0);
        due("of nobody", y.rules(2, 9, 0, 1), 0);
        due("unchanged", y.state(4, 0), 20);
        due("house 3", y.rules(3, 0, 0, 0), UNKNOWN);
        due("house -1", y.rules(-1, 1, 0, 0), UNKNOWN);
        due("p 0", y.rules(0, 0, 0, 0), OUTSIDE);
        due("p 10", y.rules(0, 10, 0, 0), OUTSIDE);
        due("rule 3", y.rules(0, 1, 3, 0), OUTSIDE);
        due("rule -1", y.rules(0, 1, -1, 0), OUTSIDE);
        due("what 2", y.rules(0, 1, 0, 2), OUTSIDE);
        due("what -1", y.rules(0, 1, 0, -1), OUTSIDE);
    }

    static void seenAndForget() {
        promise = "19 seen";
        LeastHungry x = three();
        due("the first", x.seen(1, 0), 1);
        due("p 0", x.seen(0, 0), OUTSIDE);
        due("p 10", x.seen(10, 0), OUTSIDE);
        due("set -1", x.seen(1, -1), OUTSIDE);
        due("set 64", x.seen(1, 64), OUTSIDE);
        for (int i = 2; i <= 8; i++) {
            due("sight " + i, x.seen(9, 63), i);
        }
        due("the ninth", x.seen(9, 63), FULL);
        due("OUTSIDE comes ahead of FULL", x.seen(9, 64), OUTSIDE);
        promise = "20 forget";
        due("forget", x.forget(), 8);
        due("none", x.forget(), 0);
        due("gone", x.told(3), 0);
        due("all worlds again", x.worlds(-1, 0), 216);
        due("seen after it", x.seen(1, 1), 1);
    }

    static void worlds() {
        promise = "21 worlds";
        LeastHungry x = hungers(9, 9);
        due("no sight", x.worlds(-1, 0), 36);
        x.seen(1, 2);
        due("B came first: B has 1 to 5, A none or more than B", x.worlds(-1, 1), 5 + 10);
        due("A at least", x.worlds(0, 0), 0);
        due("A at most", x.worlds(0, 1), 5);
        due("B at least", x.worlds(1, 0), 1);
        due("B at most", x.worlds(1, 1), 5);
        x.seen(2, 3);
        due("A ate, too", x.worlds(-1, 0), 10);
        due("A at least", x.worlds(0, 0), 2);
        due("B at most", x.worlds(1, 1), 4);
        x.guest(1, 9, 2, 0);
        due("feints as they are", x.worlds(1, 1), 5);
        x.keen(1);
        due("found out with 2 or more", x.worlds(1, 1), 1);
        x.guest(2, 0, 0, 1);
        due("he is not in house 0", x.worlds(2, 0), UNKNOWN);
        due("not there", x.worlds(3, 0), UNKNOWN);
        due("guest -2", x.worlds(-2, 0), UNKNOWN);
        due("guest 6", x.worlds(6, 5), UNKNOWN);
        due("what 2", x.worlds(-1, 2), OUTSIDE);
        due("what -1", x.worlds(0, -1), OUTSIDE);
        due("unchanged", x.state(0, 0), 9);
        x.seen(3, 8);
        due("none fits", x.worlds(-1, 0), 0);
        due("none", x.worlds(0, 0), NONE);
        due("none", x.worlds(0, 1), NONE);
        LeastHungry y = hungers(0, 0, 0, 0);
        due("four", y.worlds(-1, 0), 1296);
        y.guest(4, 0, 0, 0);
        due("more than 4", y.worlds(-1, 0), FULL);
        due("OUTSIDE comes ahead of FULL", y.worlds(0, 2), OUTSIDE);
        due("UNKNOWN, too", y.worlds(5, 0), UNKNOWN);
        LeastHungry z = new LeastHungry();
        z.guest(0, 3, 0, 1);
        due("nobody: the row of none", z.worlds(-1, 0), 1);
        z.seen(1, 1);
        due("nobody was served, then", z.worlds(-1, 0), 0);
    }

    static void tells() {
        promise = "22 tells";
        LeastHungry x = hungers(9, 9);
        due("two portions part 36 into 25, 5, 5, 1: one into 20, 15, 1", x.tells(0), 1);
        due("left at the most", x.tells(1), 20);
        x.guest(2, 0, 0, 0);
        due("three: two portions", x.tells(0), 2);
        due("A and B served: 25 where C has none, 55 where no less than they", x.tells(1), 80);
        x.leave(1);
        x.leave(2);
        due("one: any dish", x.tells(0), 1);
        due("left", x.tells(1), 5);
        x.seen(1, 0);
        due("known", x.tells(1), 1);
        x.seen(1, 1);
        due("no worlds", x.tells(0), NONE);
        due("no worlds", x.tells(1), NONE);
        due("what 2", x.tells(2), OUTSIDE);
        due("what -1", x.tells(-1), OUTSIDE);
        LeastHungry y = hungers(0, 0, 0, 0, 0);
        due("more than 4", y.tells(0), FULL);
        due("OUTSIDE comes first", y.tells(2), OUTSIDE);
        due("nobody", new LeastHungry().tells(0), 1);
        due("nobody", new LeastHungry().tells(1), 1);
    }

    static void portions() {
        promise = "23 portions";
        LeastHungry x = three();
        due("the first most: A would", x.portions(321000, 0), 0);
        due("who", x.portions(321000, 1), 0);
        due("as many for each", x.portions(222000, 0), 1);
        due("who", x.portions(222000, 1), NONE);
        due("the last most", x.portions(123999, 0), 1);
        due("the sixth place is nobody's", x.portions(9, 0), 1);
        due("A is content with the second place, C is not", x.portions(450000, 1), 2);
        x.guest(0, 0, 0, 0);
        due("without hunger nobody has a place", x.portions(120000, 1), NONE);
        due("C would", x.portions(210000, 1), 2);
        x.guest(2, 13, 0, 0);
        due("too hungry to show less than B", x.portions(210000, 1), NONE);
        x.guest(2, 12, 0, 0);
        due("a tie is B's", x.portions(210000, 1), NONE);
        x.guest(2, 11, 0, 0);
        due("9 is enough", x.portions(210000, 1), 2);
        x.keen(0);
        due("nobody is found out", x.portions(210000, 1), 2);
        x.guest(1, 3, 0, 1);
        due("of house 0 alone", x.portions(210000, 0), 1);
        x.guest(3, 1, 0, 0);
        x.guest(1, 2, 0, 0);
        due("hungers are as they are behind it", x.portions(100000, 1), 1);
        due("by 1, not by more", hungers(3, 2, 1).portions(131000, 1), 0);
        LeastHungry y = hungers(1, 1, 1, 1, 1, 1);
        due("six", y.portions(111112, 0), 1);
        due("six: B would", y.portions(211111, 1), 1);
        due("nobody would go behind by a feint", y.portions(111121, 1), NONE);
        due("999999", y.portions(999999, 0), 1);
        due("0", y.portions(0, 0), 1);
        due("-1", y.portions(-1, 0), OUTSIDE);
        due("1000000", y.portions(1000000, 0), OUTSIDE);
        due("what 2", y.portions(0, 2), OUTSIDE);
        due("what -1", y.portions(0, -1), OUTSIDE);
        due("nobody", new LeastHungry().portions(321000, 1), NONE);
    }

    static void seats() {
        promise = "24 seats";
        LeastHungry x = hungers(1, 1, 1, 1, 1, 1);
        due("720 rows", x.seats(0, -1), 720);
        for (int k = 0; k < 6; k++) {
            due("by letters", x.seats(0, k), k);
        }
        due("place 6", x.seats(0, 6), NONE);
        due("place -2", x.seats(0, -2), NONE);
        due("place HIGH", x.seats(0, HIGH), NONE);
        x.feud(0, 1, true);
        due("720 less 240", x.seats(0, -1), 480);
        due("A", x.seats(0, 0), 0);
        due("C", x.seats(0, 1), 2);
        due("B", x.seats(0, 2), 1);
        x.feud(0, 2, true);
        x.feud(0, 3, true);
        x.feud(0, 4, true);
        due("A beside F alone: at an end", x.seats(0, -1), 48);
        due("A", x.seats(0, 0), 0);
        due("F", x.seats(0, 1), 5);
        due("B", x.seats(0, 2), 1);
        x.feud(0, 5, true);
        due("A beside nobody", x.seats(0, -1), 0);
        due("no row", x.seats(0, 0), NONE);
        due("no row", x.seats(0, 5), NONE);
        x.guest(0, 1, 0, 1);
        due("A alone", x.seats(1, -1), 1);
        due("A", x.seats(1, 0), 0);
        due("no second", x.seats(1, 1), NONE);
        due("the others", x.seats(0, -1), 120);
        due("nobody: the row of none", x.seats(2, -1), 1);
        due("nobody", x.seats(2, 0), NONE);
        due("house 3", x.seats(3, -1), UNKNOWN);
        due("house -1", x.seats(-1, 0), UNKNOWN);
    }

    static void odds(LeastHungry x, int guest, int p, int t, long upper, long lower) {
        String call = "belch(" + guest + ", " + p + ", " + t + ")";
        due(call, x.belch(guest, p, t, 0), upper);
        due(call + " lower", x.belch(guest, p, t, 1), lower);
    }

    static void belch() {
        promise = "25 belch";
        LeastHungry x = three();
        odds(x, 2, 1, 5, 1, 2);
        odds(x, 2, 1, 3, 7, 10);
        odds(x, 1, 1, 3, 3, 10);
        odds(x, 0, 1, 3, 0, 1);
        odds(x, 0, 2, 4, 2, 5);
        odds(x, 2, 3, 10, 1, 1);
        odds(x, 2, 1, 10, 0, 1);
        odds(x, 2, 1, 0, 1, 1);
        x.keen(0);
        odds(x, 2, 1, 0, 1, 1);
        x.guest(3, 9, 9, 0);
        odds(x, 3, 1, 5, 1, 2);
        odds(x, 2, 1, 1, 9, 100);
        odds(x, 1, 1, 1, 1, 100);
        x.guest(3, 9, 9, 1);
        odds(x, 3, 1, 9, 1, 1);
        x.guest(4, 0, 9, 0);
        odds(x, 4, 9, 1, 0, 1);
        LeastHungry y = new LeastHungry();
        for (int g = 0; g < 6; g++) {
            y.guest(g, 20, 1, 2);
        }
        odds(y, 0, 1, 1, 9 * 100000 + 1, 1000000);
        due("not there", x.belch(5, 0, 0, 0), -1000000000000000001L);
        due("guest -1", x.belch(-1, 1, 0, 0), -1000000000000000001L);
        due("p 0", x.belch(0, 0, 0, 0), -1000000000000000002L);
        due("p 10", x.belch(0, 10, 0, 0), -1000000000000000002L);
        due("t -1", x.belch(0, 1, -1, 0), -1000000000000000002L);
        due("t 11", x.belch(0, 1, 11, 0), -1000000000000000002L);
        due("part 2", x.belch(0, 1, 0, 2), -1000000000000000002L);
        due("part -1", x.belch(0, 1, 0, -1), -1000000000000000002L);
    }

    static void host() {
        promise = "26 host";
        LeastHungry x = hungers(19, 19, 3);
        due("an empty pad", x.host(), 9);
        say(x, ".");
        due("no dish", x.host(), 9);
        say(x, "a6.");
        due("three must be left for two and C", x.host(), 3);
        x.guest(1, 20, 0, 0);
        due("B, too", x.host(), 3);
        x.guest(1, 20, 0, 1);
        due("B is starved anyway", x.host(), 4);
        say(x, "a2.");
        due("none to spare", x.host(), 0);
        say(x, "a3.");
        due("one to spare", x.host(), 1);
        say(x, "a9");
        due("nobody starves", x.host(), 9);
        say(x, "a9...");
        due("A starves anyway", x.host(), 9);
        say(x, "c1");
        due("can not be", x.host(), NO);
        say(x, "c");
        due("a fault", x.host(), NO);
        say(x, "AcBcCcc9");
        due("a dish of no more than v came", x.host(), 6);
    }

    static void year() {
        promise = "27 year";
        LeastHungry x = three();
        due("x is 74: C has a feint", x.year(0, 1, 2), 16);
        due("served", x.year(77, 99, 0), 26);
        due("left", x.year(77, 99, 1), 49);
        due("hunger", x.year(77, 99, 2), 53);
        due("seed 9999", x.year(9999, 99, 0) + x.year(9999, 99, 1) + x.year(9999, 99, 2) >= 0 ? 1 : 0, 1);
        due("unchanged", x.state(0, 0) * 100 + x.state(1, 0) * 10 + x.state(2, 0), 538);
        due("nobody", new LeastHungry().year(5, 99, 1), 0);
        LeastHungry y = new LeastHungry();
        y.guest(1, 9, 0, 0);
        y.keen(3);
        due("B has a feint of 4, a dish of 5 comes: found out", y.year(1071, 2, 0), 0);
        due("left", y.year(1071, 2, 1), 5);
        due("hunger", y.year(1071, 2, 2), 9);
        y.keen(4);
        due("not found out", y.year(1071, 2, 0), 1);
        due("left", y.year(1071, 2, 1), 4);
        due("hunger", y.year(1071, 2, 2), 7);
        y.leave(1);
        due("a dish before nobody does not come", y.year(1071, 2, 1), 0);
        y.guest(3, 4, 0, 0);
        due("D goes to c, a dish of 6 comes there", y.year(1959, 2, 0), 1);
        due("left", y.year(1959, 2, 1), 5);
        due("hunger", y.year(1959, 2, 2), 3);
        y.guest(3, 4, 0, 2);
        due("D is in c already", y.year(1959, 2, 2), 2);
        due("seed -1", x.year(-1, 1, 0), OUTSIDE);
        due("seed 10000", x.year(10000, 1, 0), OUTSIDE);
        due("m 0", x.year(0, 0, 0), OUTSIDE);
        due("m 100", x.year(0, 100, 0), OUTSIDE);
        due("what 3", x.year(0, 1, 3), OUTSIDE);
        due("what -1", x.year(0, 1, -1), OUTSIDE);
    }

    static void imageAndRestore() {
        promise = "28 image";
        LeastHungry x = three();
        x.feud(0, 1, true);
        x.seen(1, 1);
        x.keen(4);
        x.say('.');
        due("image(0)", x.image(0), 1);
        due("image(2)", x.image(2), OUTSIDE);
        due("image(-1)", x.image(-1), OUTSIDE);
        promise = "29 restore";
        due("restore(1) was not kept", x.restore(1), STATE);
        due("restore(2)", x.restore(2), OUTSIDE);
        due("restore(-1)", x.restore(-1), OUTSIDE);
        x.leave(1);
        x.guest(0, 20, 9, 2);
        x.guest(5, 1, 1, 1);
        x.keen(9);
        x.seen(2, 2);
        x.image(1);
        x.say('a');
        due("restore(0)", x.restore(0), 1);
        due("guests", x.told(1), 7);
        due("keen", x.told(2), 4);
        due("sights", x.told(3), 1);
        due("the sight itself", x.worlds(0, 0), 1);
        due("feuds", x.told(4), 1);
        due("hunger", x.state(0, 0), 5);
        due("feint", x.told(10), 0);
        due("house", x.state(0, 2), 0);
        due("the pad is as it was", x.told(0), 2);
        x.keen(1);
        x.feud(1, 2, true);
        due("the image stays", x.restore(0), 1);
        due("keen again", x.told(2), 4);
        due("feuds again", x.told(4), 1);
        x.forget();
        x.seen(2, 7);
        x.restore(0);
        due("the sight itself again", x.worlds(1, 1), 5);
        due("the other image", x.restore(1), 1);
        due("guests", x.told(1), 37);
        due("sights", x.told(3), 2);
        due("house", x.state(0, 2), 2);
    }

    static void told() {
        promise = "30 told";
        LeastHungry x = three();
        x.keen(3);
        x.seen(1, 1);
        x.feud(0, 2, true);
        x.say('!');
        due("signs", x.told(0), 1);
        due("guests", x.told(1), 7);
        due("keen", x.told(2), 3);
        due("sights", x.told(3), 1);
        due("feuds", x.told(4), 1);
        due("A's feint", x.told(10), 0);
        due("C's feint", x.told(12), 6);
        due("as told, not as it counts", x.guest(5, 1, 9, 0) * 10 + x.told(15), 49);
        for (int bad : new int[] {-1, 5, 9, 13, 14, 16, 42, LOW, HIGH}) {
            due("told(" + bad + ")", x.told(bad), OUTSIDE);
        }
    }
}
