/** Promises 12 to 18: best, rest, settle, greediest, together, hotter, breaks. */
public final class BestTest {
    private static final Due T = new Due("BestTest");
    private static final int MAX = Integer.MAX_VALUE, MIN = Integer.MIN_VALUE;
    private static final int AUNT = 0, PROUD = 1, MEEK = 2, SLY = 4, MAID = 5;

    public static void main(String[] args) {
        best();
        bestAllElseAsItIs();
        restAndSettle();
        settleOneAfterTheOther();
        settleKeepsLikeOnes();
        greediest();
        together();
        togetherRefuses();
        hotter();
        breaks();
        T.end();
    }

    private static void bestIs(String rule, int plan, int share) {
        TepidByTreaty x = Due.ruled(rule);
        x.aunt(AUNT, 3, 21);
        T.due("best plan: " + rule, x.best(0, 0), plan);
        T.due("share: " + rule, x.best(0, 1), share);
        T.due("her plan stays", x.told(0, 4), 21);
    }

    private static void best() {
        TepidByTreaty x = new TepidByTreaty();
        T.due("best of nobody", x.best(0, 0), -1000000);
        x.aunt(AUNT, 0, 0);
        // 77, 68, 59, 50, 41, 32
        T.due("best(0, 0)", x.best(0, 0), 63);
        T.due("best(0, 1)", x.best(0, 1), 327);
        int[][] none = {{1, 0}, {-1, 0}, {0, -1}, {0, 2}, {MAX, 0}, {MIN, 0}, {0, MAX}, {0, MIN}};
        for (int[] n : none) {
            T.due("best(" + n[0] + ", " + n[1] + ")", x.best(n[0], n[1]), -1000000);
        }
        bestIs("may cups<1; joys 5; cools 0;", 1, 5);
        bestIs("may minute=3; joys 5; cools 0;", 8, 5);
        bestIs("may 1; joys 0; cools 0;", 0, 0);
        bestIs("may 1; joys -1; cools 0;", 0, 0);
        bestIs("may 1; joys minute-2; cools 0;", 0b111000, 6);
        bestIs("may heat=80; joys minute; cools 0;", 32, 5);
        bestIs("may heat=80; joys 4-(minute-3)*(minute-3); cools 0;", 8, 4);
        bestIs("may 0; joys 5; cools 0;", 0, 0);
    }

    private static void bestAllElseAsItIs() {
        TepidByTreaty x = Due.ruled("may heat=80; joys 5; cools 0;");
        x.aunt(AUNT, 0, 1);
        x.aunt(AUNT, 0, 2);
        T.due("the first takes all in minute 0", x.best(1, 1), 0);
        T.due("none is the least", x.best(1, 0), 0);
        x.set(4, 0, 4);
        T.due("now she can be earlier", x.best(1, 0), 1);
        T.due("share", x.best(1, 1), 5);
        T.due("and the first too", x.best(0, 0), 1);
    }

    private static void restAndSettle() {
        TepidByTreaty x = new TepidByTreaty();
        T.due("rest of nobody", x.rest(), 1);
        T.due("settle of nobody", x.settle(), 0);
        x.aunt(AUNT, 0, 0);
        x.aunt(MAID, 0, 63);
        T.due("rest", x.rest(), 0);
        T.due("settle", x.settle(), 1);
        T.due("plan", x.told(0, 4), 63);
        T.due("the other's", x.told(1, 4), 63);
        T.due("rest", x.rest(), 1);
        T.due("settle", x.settle(), 0);
        x.set(4, 1, 0);
        T.due("the last one would rather", x.rest(), 0);
        T.due("settle", x.settle(), 1);
        T.due("plan", x.told(1, 4), 63);
        T.due("thirst is as it was", x.told(1, 3), 10);
        T.due("heat too", x.told(0, 0), 80);
    }

    private static void settleOneAfterTheOther() {
        TepidByTreaty x = Due.ruled("may heat=80; joys 5; cools 0;");
        x.aunt(AUNT, 0, 0);
        x.aunt(AUNT, 0, 2);
        T.due("rest", x.rest(), 0);
        T.due("the first comes ahead of the second, who then has nothing better", x.settle(), 1);
        T.due("first", x.told(0, 4), 1);
        T.due("second", x.told(1, 4), 2);
        T.due("rest", x.rest(), 1);
        // each of them would have the second cup: the first takes minute 0, so the second finds 74 and minute 0 too
        x = Due.ruled("may heat=80 and number=1 or heat=74 and number=2; joys 5; cools 0;");
        x.aunt(AUNT, 1, 0);
        x.aunt(AUNT, 2, 0);
        T.due("both, for the second sees what the first took", x.settle(), 2);
        T.due("first", x.told(0, 4), 1);
        T.due("second", x.told(1, 4), 1);
        // by numbers, each once: the first has nothing till the second took
        x = Due.ruled("may heat=80 and number=1 or heat=74 and number=2; joys 5; cools 0;");
        x.aunt(AUNT, 2, 0);
        x.aunt(AUNT, 1, 0);
        T.due("the second alone", x.settle(), 1);
        T.due("first", x.told(0, 4), 0);
        T.due("rest", x.rest(), 0);
        T.due("then the first", x.settle(), 1);
        T.due("behind minute 0", x.told(0, 4), 2);
        T.due("rest", x.rest(), 1);
    }

    private static void settleKeepsLikeOnes() {
        TepidByTreaty x = Due.ruled("may cups<1; joys 5; cools 0;");
        x.aunt(AUNT, 0, 8);
        T.due("as much by her own", x.settle(), 0);
        T.due("plan", x.told(0, 4), 8);
        T.due("best would be", x.best(0, 0), 1);
        T.due("rest", x.rest(), 1);
        x = Due.ruled("may 1; joys -5; cools 0;");
        x.aunt(AUNT, 0, 1);
        T.due("nothing is more than less than nothing", x.settle(), 1);
        T.due("plan", x.told(0, 4), 0);
    }

    private static void greediest() {
        TepidByTreaty x = Due.ruled("may 1; joys 7-number; cools 0;");
        T.due("nobody", x.greediest(0), -1);
        T.due("nobody's", x.greediest(1), 0);
        x.aunt(AUNT, 9, 1);
        T.due("one below nothing", x.greediest(0), 0);
        T.due("hers", x.greediest(1), -2);
        x.aunt(AUNT, 3, 1);
        x.aunt(AUNT, 3, 1);
        x.aunt(AUNT, 5, 1);
        T.due("of like ones the first", x.greediest(0), 1);
        T.due("hers", x.greediest(1), 4);
        int[] bad = {-1, 2, MAX, MIN};
        for (int b : bad) {
            T.due("greediest(" + b + ")", x.greediest(b), -1000000);
        }
    }

    private static void together() {
        TepidByTreaty x = Due.ruled("may heat=80; joys 5*number; cools 0;");
        x.aunt(AUNT, 1, 63);
        x.aunt(AUNT, 2, 63);
        T.due("the other alone", x.together(0, 1, 0), 1);
        T.due("both shares", x.together(0, 1, 1), 10);
        T.due("one alone", x.together(1, 0, 0), 100);
        T.due("both shares", x.together(1, 0, 1), 10);
        T.due("plans stay", x.told(0, 4), 63);
        T.due("plans stay", x.told(1, 4), 63);
        x = Due.ruled("may minute=1+number; joys 5; cools 0;");
        x.aunt(AUNT, 9, 0);
        x.aunt(AUNT, 0, 0);
        x.aunt(AUNT, 2, 0);
        T.due("minutes 1 and 3", x.together(1, 2, 0), 208);
        T.due("minutes 3 and 1", x.together(2, 1, 0), 802);
        T.due("both", x.together(1, 2, 1), 10);
        x.set(2, 1, 3);
        T.due("minute 4 is too late", x.together(1, 2, 0), 8);
        T.due("hers alone", x.together(1, 2, 1), 5);
        x = Due.ruled("may 1; joys -5; cools 0;");
        x.aunt(AUNT, 1, 63);
        x.aunt(AUNT, 1, 63);
        x.aunt(AUNT, 1, 63);
        T.due("none", x.together(0, 2, 0), 0);
        T.due("nothing", x.together(0, 2, 1), 0);
        x = Due.ruled("may 1; joys 1; cools 0;");
        x.aunt(AUNT, 1, 0);
        x.aunt(AUNT, 1, 0);
        T.due("all", x.together(0, 1, 0), 1515);
        T.due("eight", x.together(0, 1, 1), 8);
        // the third, by her own plan, leaves nothing to the two
        x = Due.ruled("may heat=80; joys 5; cools 0;");
        x.aunt(AUNT, 1, 1);
        x.aunt(AUNT, 1, 0);
        x.aunt(AUNT, 1, 0);
        T.due("the third's plan is as it is", x.together(1, 2, 1), 0);
    }

    private static void togetherRefuses() {
        TepidByTreaty x = new TepidByTreaty();
        T.due("nobody", x.together(0, 1, 0), -1000000);
        x.aunt(AUNT, 0, 0);
        x.aunt(AUNT, 0, 0);
        int[][] bad = {{0, 2, 0}, {2, 0, 0}, {-1, 0, 0}, {0, -1, 0}, {1, 1, 0}, {0, 0, 1}, {0, 1, 2}, {0, 1, -1}, {MAX, 0, 0}, {0, MIN, 0}, {0, 1, MAX}};
        for (int[] b : bad) {
            T.due("together(" + b[0] + ", " + b[1] + ", " + b[2] + ")", x.together(b[0], b[1], b[2]), -1000000);
        }
    }

    private static void hotter() {
        TepidByTreaty x = Due.ruled("may 1; joys heat; cools 0;");
        x.aunt(AUNT, 0, 1);
        int[][] due = {{50, 50}, {1, 1}, {0, 0}, {-9999, 0}, {99, 99}, {100, -1}, {9999, -1}, {10000, -2}, {-10000, -2}, {MAX, -2}, {MIN, -2}};
        for (int[] d : due) {
            T.due("hotter(" + d[0] + ")", x.hotter(d[0]), d[1]);
        }
        x.aunt(AUNT, 0, 1);
        T.due("of all: 53 and 47", x.hotter(100), 53);
        T.due("heat stays", x.told(0, 0), 80);
        x = Due.ruled("may 1; joys (heat=30)*50; cools 0;");
        x.aunt(AUNT, 0, 1);
        T.due("not only from somewhere on", x.hotter(50), 30);
        T.due("none so hot", x.hotter(51), -1);
        x = Due.ruled("may 1; joys 0-5; cools 0;");
        x.aunt(AUNT, 0, 1);
        T.due("less than nothing", x.hotter(-5), 0);
        T.due("nothing", x.hotter(-4), -1);
    }

    private static void breaks() {
        TepidByTreaty x = Due.ruled("may number; joys 1; cools 0;");
        T.due("nobody", x.breaks(0), -1);
        T.due("never", x.breaks(1), -1);
        x.aunt(AUNT, 1, 63);
        x.aunt(AUNT, 0, 0b110100);
        T.due("she", x.breaks(0), 1);
        T.due("in minute 2", x.breaks(1), 2);
        x.aunt(AUNT, 0, 0b101000);
        x.aunt(AUNT, 0, 0b111100);
        T.due("the first by numbers", x.breaks(0), 1);
        x.aunt(AUNT, 0, 0b100010);
        T.due("minute by minute first", x.breaks(0), 4);
        T.due("in minute 1", x.breaks(1), 1);
        x.set(4, 4, 0);
        x.set(4, 3, 0);
        x.set(4, 2, 0);
        x.set(4, 1, 0);
        T.due("she who may does not break it", x.breaks(0), -1);
        T.due("never", x.breaks(1), -1);
        int[] bad = {-1, 2, MAX, MIN};
        for (int b : bad) {
            T.due("breaks(" + b + ")", x.breaks(b), -2);
        }
    }
}
