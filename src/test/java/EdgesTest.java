/** Promises 1 to 30: what just may be, empty and full; what just may not be is RefusalTest's. */
public final class EdgesTest {
    private static final Due T = new Due("EdgesTest");
    private static final int MAX = Integer.MAX_VALUE, MIN = Integer.MIN_VALUE;
    private static final int AUNT = 0, PROUD = 1, MEEK = 2, LAME = 3, SLY = 4, MAID = 5;
    private static final String GLAD = "may 1;joys 5;cools 0;";

    public static void main(String[] args) {
        objectsAreApart();
        setAtBothEnds();
        setOfThePotForAnybody();
        auntAtBothEnds();
        roomAgainBehindBack();
        toldOfAllFive();
        feedAllBytes();
        forceFirstAndLast();
        minuteFirstAndLast();
        shareOfNobodyAndOfAll();
        hourUpTo999();
        hourOfCoolPot();
        bestAtBothEnds();
        bestOfLikeOnes();
        restAndSettleOfNobody();
        settleOfFive();
        greediestAtBothEnds();
        togetherAtBothEnds();
        togetherOfLikeOnes();
        hotterAtBothEnds();
        breaksAtBothEnds();
        tellsFirstOther();
        tellsNothing();
        tellsKindsAtBothEnds();
        tellsNumbersAtBothEnds();
        tellsThirstsAtBothEnds();
        tellsPlansAtBothEnds();
        tellsTextsAtBothEnds();
        filmOfNoneAndOfSix();
        filmOfAPotThatIsPoured();
        drawnWraps();
        chanceAtBothEnds();
        chanceWraps();
        imageOfFive();
        imageAnew();
        countAtBothEnds();
        sheetAtBothEnds();
        sheetAnewIsAllNothing();
        cellCutsToItsSort();
        copyAtBothEnds();
        copyOverItself();
        copyOfNone();
        auntsAtBothEnds();
        auntsLeftOut();
        auntsOutsideBehindSome();
        taken();
        T.end();
    }

    private static TepidByTreaty five(String rule, int kind, int plan) {
        TepidByTreaty x = Due.ruled(rule);
        for (int a = 0; a < 5; a++) x.aunt(kind, a, plan);
        return x;
    }

    // ---- promise 1

    private static void objectsAreApart() {
        TepidByTreaty x = five(GLAD, MEEK, 63);
        x.hour();
        x.image();
        x.film(0, 6);
        x.feed(1);
        TepidByTreaty y = new TepidByTreaty();
        int[] counts = {0, 0, 1, 0, 0, 0};
        for (int what = 0; what < 6; what++) T.due("new: count(" + what + ")", y.count(what), counts[what]);
        T.due("new: heat", y.told(0, 0), 80);
        T.due("new: image", y.back(), -3);
        for (int sheet = 0; sheet < 4; sheet++) T.due("new: sheet " + sheet, y.tells(sheet, 0), -11);
        T.due("new: the rule cools", y.minute(0, 0), 77);
        T.due("the other stays", x.count(0), 5);
    }

    // ---- promises 2 to 4

    private static void setAtBothEnds() {
        TepidByTreaty x = five(GLAD, SLY, 7);
        int[] most = {99, 999, 9, 99, 63};
        for (int what = 0; what < 5; what++) {
            for (int of = 0; of < 5; of++) {
                int was = x.told(of, what);
                T.due("set " + what + " of " + of + " to its most", x.set(what, of, most[what]), was);
                T.due("is it", x.told(of, what), most[what]);
                T.due("to its least", x.set(what, of, 0), most[what]);
                T.due("is it", x.told(of, what), 0);
                T.due("one more than least", x.set(what, of, 1), 0);
                T.due("one less than most", x.set(what, of, most[what] - 1), 1);
                T.due("the same again", x.set(what, of, most[what] - 1), most[what] - 1);
                T.due("back", x.set(what, of, was), most[what] - 1);
            }
        }
        for (int of = 0; of < 5; of++) {
            int[] all = {80, 0, of, 10, 7, SLY, 0};
            for (int what = 0; what < 7; what++) T.due("all as it was, of " + of + " what " + what, x.told(of, what), all[what]);
        }
    }

    /** HEAT (what 0; of does not matter), HOUR (1; nor). */
    private static void setOfThePotForAnybody() {
        int[] whoever = {-1, 0, 4, 5, MIN, MAX};
        TepidByTreaty x = new TepidByTreaty();
        for (int of : whoever) {
            T.due("heat of " + of, x.set(0, of, 99), 80);
            T.due("heat of " + of + " told", x.told(of, 0), 99);
            T.due("heat back", x.set(0, of, 80), 99);
            T.due("hour of " + of, x.set(1, of, 999), 0);
            T.due("hour of " + of + " told", x.told(of, 1), 999);
            T.due("hour back", x.set(1, of, 0), 999);
        }
    }

    private static void auntAtBothEnds() {
        int[][] ends = {{0, 0, 0}, {5, 0, 0}, {0, 9, 0}, {0, 0, 63}, {5, 9, 63}};
        TepidByTreaty x = new TepidByTreaty();
        for (int a = 0; a < 5; a++) {
            T.due("aunt " + a, x.aunt(ends[a][0], ends[a][1], ends[a][2]), a);
            T.due("aunts", x.count(0), a + 1);
        }
        T.due("no sixth", x.aunt(0, 0, 0), -4);
        for (int a = 0; a < 5; a++) {
            T.due("kind of " + a, x.told(a, 5), ends[a][0]);
            T.due("number of " + a, x.told(a, 2), ends[a][1]);
            T.due("plan of " + a, x.told(a, 4), ends[a][2]);
        }
        T.due("nobody beyond", x.told(5, 5), -1000000);
    }

    private static void roomAgainBehindBack() {
        TepidByTreaty x = five(GLAD, MAID, 1);
        x.back();
        T.due("no image, no room", x.aunt(0, 0, 0), -4);
        TepidByTreaty y = Due.ruled(GLAD);
        for (int a = 0; a < 4; a++) y.aunt(AUNT, 1, 1);
        y.image();
        y.aunt(MAID, 9, 63);
        y.set(3, 4, 77);
        y.hour();
        T.due("full", y.aunt(0, 0, 0), -4);
        T.due("back", y.back(), 4);
        T.due("she is gone", y.set(4, 4, 0), -2);
        T.due("room for one", y.aunt(SLY, 3, 2), 4);
        int[] told = {3, 10, 2, SLY, 0, 4};
        for (int what = 2; what <= 7; what++) T.due("the new one, " + what, y.told(4, what), told[what - 2]);
        T.due("full again", y.aunt(0, 0, 0), -4);
    }

    private static void toldOfAllFive() {
        TepidByTreaty x = new TepidByTreaty();
        int[] takes = {6, 7, 3, 9, 4};
        for (int a = 0; a < 5; a++) x.aunt(a, a, 10 * a);
        for (int a = 0; a < 5; a++) {
            int[] told = {80, 0, a, 10, 10 * a, a, 0, takes[a]};
            for (int what = 0; what < 8; what++) T.due("told(" + a + ", " + what + ")", x.told(a, what), told[what]);
        }
    }

    // ---- promises 5 to 7

    private static void feedAllBytes() {
        for (int from = 0; from < 256; from += 128) {
            TepidByTreaty x = new TepidByTreaty();
            for (int b = from; b < from + 128; b++) {
                T.due("feed(" + b + ")", x.feed(b), b - from + 1);
                T.due("tape", x.count(3), b - from + 1);
            }
            T.due("not 256", x.feed(256), -2);
            T.due("not -1", x.feed(-1), -2);
            T.due("tape", x.count(3), 128);
        }
    }

    private static void forceFirstAndLast() {
        TepidByTreaty x = new TepidByTreaty();
        T.due("the only one", x.force(0), 0);
        for (int k = 1; k <= 5; k++) {
            T.due("not yet " + k, x.force(k), -2);
            Due.text(x, "may 1;joys 1;cools " + k + ";");
            T.due("a text is no rule by itself", x.count(4), k - 1);
            T.due("force " + k, x.force(k), k - 1);
            T.due("cools " + k, x.minute(0, 0), 80 - k);
            T.due("the same again", x.force(k), k);
        }
        T.due("the first", x.force(0), 5);
        T.due("cools 3", x.minute(0, 0), 77);
    }

    // ---- promises 8 to 11

    private static void minuteFirstAndLast() {
        TepidByTreaty x = Due.ruled("may number;joys 1;cools 2;");
        x.aunt(MAID, 1, 33);
        x.aunt(MEEK, 0, 33);
        int[][] due = {{78, 2, 1, 2}, {68, 2, 1, 2}};
        for (int what = 0; what < 4; what++) {
            T.due("minute(0, " + what + ")", x.minute(0, what), due[0][what]);
            T.due("minute(5, " + what + ")", x.minute(5, what), due[1][what]);
        }
        TepidByTreaty empty = new TepidByTreaty();
        for (int m = 0; m < 6; m++) {
            T.due("nobody, heat behind " + m, empty.minute(m, 0), 77 - 3 * m);
            for (int what = 1; what < 4; what++) T.due("nobody in " + m + ", " + what, empty.minute(m, what), 0);
        }
        TepidByTreaty all = five("may 1;joys 1;cools 0;", MEEK, 63);
        TepidByTreaty none = five("may 0;joys 1;cools 0;", MEEK, 63);
        for (int m = 0; m < 6; m++) {
            T.due("all show in " + m, none.minute(m, 1), 31);
            T.due("all pour in " + m, all.minute(m, 2), 31);
            T.due("all may in " + m, all.minute(m, 3), 0);
            T.due("none pours in " + m, none.minute(m, 2), 0);
            T.due("none may in " + m, none.minute(m, 3), 31);
        }
    }

    private static void shareOfNobodyAndOfAll() {
        T.due("all of nobody", new TepidByTreaty().share(-1), 0);
        TepidByTreaty x = Due.ruled("may 1;joys 9*number-10;cools 0;");
        for (int a = 0; a < 5; a++) x.aunt(AUNT, a, a == 0 ? 63 : 1);
        int[] due = {-60, -1, 8, 17, 26};
        int[] cups = {6, 1, 1, 1, 1};
        for (int a = 0; a < 5; a++) {
            T.due("share of " + a, x.share(a), due[a]);
            T.due("cups of " + a, x.cups(a), cups[a]);
        }
        T.due("share of all", x.share(-1), -10);
        T.due("hour answers all", x.hour(), -10);
    }

    /** -1000000: HOUR is 999. */
    private static void hourUpTo999() {
        TepidByTreaty x = Due.ruled(GLAD);
        x.aunt(MAID, 0, 1);
        x.set(1, 0, 997);
        for (int hour = 998; hour <= 999; hour++) {
            T.due("an hour", x.hour(), 1);
            T.due("hour " + hour, x.told(0, 1), hour);
        }
        T.due("no more", x.hour(), -1000000);
        T.due("it stays", x.told(0, 1), 999);
        T.due("had stays", x.told(0, 6), 2);
        T.due("set back", x.set(1, 0, 998), 999);
        T.due("an hour again", x.hour(), 1);
        T.due("had", x.told(0, 6), 3);
    }

    private static void hourOfCoolPot() {
        TepidByTreaty x = five("may 1;joys heat;cools 40;", AUNT, 63);
        x.set(0, 0, 0);
        T.due("no joy of a cold pot", x.hour(), 0);
        T.due("heat", x.told(0, 0), 0);
        x.set(0, 0, 41);
        T.due("one cup at 1", x.hour(), 1);
        T.due("the first has it", x.told(0, 6), 1);
        T.due("the last not", x.told(4, 6), 0);
        for (int a = 0; a < 5; a++) {
            // 10, then -10 (0 at least) and 2 in each of twelve minutes
            T.due("thirst of " + a, x.told(a, 3), 2);
        }
    }

    // ---- promises 12 to 18

    private static void bestAtBothEnds() {
        TepidByTreaty x = five("may 1;joys 2;cools 0;", MEEK, 5);
        for (int a = 0; a < 5; a++) {
            T.due("best of " + a, x.best(a, 0), 63);
            T.due("share then", x.best(a, 1), 6 * (2 + a));
        }
        TepidByTreaty y = five("may 1;joys 0-9;cools 0;", MEEK, 5);
        for (int a = 0; a < 5; a++) {
            T.due("best of none", y.best(a, 0), 0);
            T.due("share then", y.best(a, 1), 0);
            T.due("her plan stays", y.told(a, 4), 5);
        }
        for (int m = 0; m < 6; m++) {
            TepidByTreaty z = Due.ruled("may 1;joys 1-2*(not minute=" + m + ");cools 0;");
            z.aunt(AUNT, 0, 63 - (1 << m));
            T.due("best in minute " + m, z.best(0, 0), 1 << m);
            T.due("share", z.best(0, 1), 1);
            z = Due.ruled("may 1;joys 1-2*(minute=" + m + ");cools 0;");
            z.aunt(AUNT, 0, 1 << m);
            T.due("best but in minute " + m, z.best(0, 0), 63 - (1 << m));
            T.due("share", z.best(0, 1), 5);
        }
    }

    /** of like ones the least. */
    private static void bestOfLikeOnes() {
        for (int cups = 1; cups <= 6; cups++) {
            TepidByTreaty x = Due.ruled("may cups<" + cups + ";joys 1;cools 0;");
            x.aunt(AUNT, 0, 63);
            T.due("least for " + cups, x.best(0, 0), (1 << cups) - 1);
            T.due("share", x.best(0, 1), cups);
        }
        TepidByTreaty x = Due.ruled("may 1;joys 0;cools 0;");
        x.aunt(AUNT, 0, 63);
        T.due("least of all", x.best(0, 0), 0);
        T.due("nobody would rather", x.rest(), 1);
        T.due("nobody changes", x.settle(), 0);
        T.due("plan", x.told(0, 4), 63);
    }

    private static void restAndSettleOfNobody() {
        TepidByTreaty x = new TepidByTreaty();
        T.due("rest", x.rest(), 1);
        T.due("settle", x.settle(), 0);
        T.due("greediest", x.greediest(0), -1);
        T.due("her share", x.greediest(1), 0);
        T.due("breaks", x.breaks(0), -1);
        T.due("when", x.breaks(1), -1);
        T.due("hotter than nothing", x.hotter(1), -1);
        T.due("nothing", x.hotter(0), 0);
        T.due("drawn", x.drawn(MAX), 0);
        T.due("chance", x.chance(MAX, 20, 0), 1);
        T.due("chance", x.chance(MAX, 20, 1), 1);
    }

    private static void settleOfFive() {
        TepidByTreaty x = five(GLAD, MAID, 62);
        T.due("rest", x.rest(), 0);
        T.due("all change", x.settle(), 5);
        for (int a = 0; a < 5; a++) T.due("plan of " + a, x.told(a, 4), 63);
        T.due("rest", x.rest(), 1);
        T.due("none changes", x.settle(), 0);
        x.set(4, 4, 62);
        T.due("the last would rather", x.rest(), 0);
        T.due("the last changes", x.settle(), 1);
        x.set(4, 0, 62);
        T.due("the first would rather", x.rest(), 0);
        T.due("the first changes", x.settle(), 1);
        T.due("no hour has passed", x.count(1), 0);
        T.due("nobody had any", x.told(4, 6), 0);
    }

    /** who has most SHARE; of like ones the first. */
    private static void greediestAtBothEnds() {
        for (int who = 0; who < 5; who++) {
            TepidByTreaty x = five("may 1;joys 0-10;cools 0;", AUNT, 1);
            x.set(4, who, 0);
            T.due("of all the one with nothing", x.greediest(0), who);
            T.due("nothing", x.greediest(1), 0);
            if (who < 4) {
                x.set(4, 4, 0);
                T.due("of like ones the first", x.greediest(0), who);
            }
        }
        TepidByTreaty x = five("may 1;joys 0-10;cools 0;", AUNT, 1);
        T.due("all alike", x.greediest(0), 0);
        T.due("all below nothing", x.greediest(1), -10);
        x.set(4, 0, 3);
        T.due("less is not most", x.greediest(0), 1);
    }

    /** of PLANS 0 .. 15 of either (no later MINUTES). */
    private static void togetherAtBothEnds() {
        TepidByTreaty x = five(GLAD, MAID, 63);
        for (int one = 0; one < 5; one++) {
            for (int other = 0; other < 5; other++) {
                if (one == other) continue;
                T.due("all of " + one + " and " + other, x.together(one, other, 0), 1515);
                T.due("both", x.together(one, other, 1), 8);
            }
        }
        TepidByTreaty y = Due.ruled("may 1;joys 0-5;cools 0;");
        y.aunt(AUNT, 0, 63);
        y.aunt(AUNT, 0, 63);
        T.due("none", y.together(0, 1, 0), 0);
        T.due("nothing", y.together(0, 1, 1), 0);
        for (int m = 0; m < 6; m++) {
            TepidByTreaty z = Due.ruled("may minute=" + m + ";joys 5;cools 0;");
            z.aunt(AUNT, 0, 63);
            z.aunt(AUNT, 0, 63);
            T.due("in minute " + m, z.together(0, 1, 0), m < 4 ? 101 << m : 0);
            T.due("both", z.together(0, 1, 1), m < 4 ? 10 : 0);
        }
    }

    /** of like ones the first (of the one the least, then of the other). */
    private static void togetherOfLikeOnes() {
        TepidByTreaty x = Due.ruled("may heat=80;joys 5;cools 0;");
        x.aunt(AUNT, 0, 0);
        x.aunt(AUNT, 0, 0);
        T.due("the one's least is none", x.together(0, 1, 0), 1);
        T.due("also the other way round", x.together(1, 0, 0), 1);
        T.due("one cup", x.together(0, 1, 1), 5);
        x = Due.ruled("may cups<1;joys 5;cools 0;");
        x.aunt(AUNT, 0, 0);
        x.aunt(AUNT, 0, 0);
        T.due("the least of either", x.together(0, 1, 0), 101);
        x = Due.ruled("may 1;joys 5*number*(cups<number);cools 0;");
        x.aunt(AUNT, 2, 0);
        x.aunt(AUNT, 1, 0);
        T.due("two and one", x.together(0, 1, 0), 301);
        T.due("one and two", x.together(1, 0, 0), 103);
        T.due("both", x.together(0, 1, 1), 25);
    }

    /** the least HEAT (0 .. 99) at first by which ALL would be k (-9999 .. 9999) or more. */
    private static void hotterAtBothEnds() {
        TepidByTreaty x = Due.ruled("may 1;joys 5*(heat=99)-5*(heat=0);cools 0;");
        x.aunt(MAID, 0, 0);
        x.aunt(AUNT, 0, 1);
        T.due("at 99 alone", x.hotter(5), 99);
        T.due("at no heat", x.hotter(6), -1);
        T.due("just not at 0", x.hotter(0), 1);
        T.due("just not at 0", x.hotter(-4), 1);
        T.due("at 0 too", x.hotter(-5), 0);
        T.due("at all", x.hotter(-9999), 0);
        T.due("9999", x.hotter(9999), -1);
        T.due("9998", x.hotter(9998), -1);
        T.due("heat stays", x.told(0, 0), 80);
        TepidByTreaty glad = Due.ruled("may 1;joys heat;cools 0;");
        for (int a = 0; a < 5; a++) glad.aunt(AUNT, 0, 1);
        glad.set(0, 0, 99);
        // 99, 93, 87, 81, 75
        T.due("all of 99", glad.hotter(435), 99);
        T.due("one more", glad.hotter(436), -1);
        TepidByTreaty low = Due.ruled("may 1;joys 0-99;cools 0;");
        for (int a = 0; a < 5; a++) low.aunt(AUNT, 0, 63);
        T.due("all of any", low.hotter(-30 * 99), 0);
        T.due("one more", low.hotter(-30 * 99 + 1), -1);
    }

    private static void breaksAtBothEnds() {
        for (int a = 0; a < 5; a++) {
            for (int m = 0; m < 6; m++) {
                TepidByTreaty x = Due.ruled("may not (number=" + a + " and minute=" + m + ");joys 1;cools 0;");
                for (int k = 0; k < 5; k++) x.aunt(MAID, k, 63);
                T.due("she, " + a, x.breaks(0), a);
                T.due("then, " + m, x.breaks(1), m);
                x.set(4, a, 63 - (1 << m));
                T.due("who does not reach does not break", x.breaks(0), -1);
                T.due("never", x.breaks(1), -1);
            }
        }
        TepidByTreaty x = Due.ruled("may not (number=4 and minute=0 or number=0 and minute=1 or number<2 and minute=2);joys 1;cools 0;");
        for (int k = 0; k < 5; k++) x.aunt(MAID, k, 63);
        T.due("minute by minute first", x.breaks(0), 4);
        x.set(4, 4, 62);
        T.due("then by numbers", x.breaks(0), 0);
        T.due("in 1", x.breaks(1), 1);
        x.set(4, 0, 61);
        T.due("by numbers in 2", x.breaks(0), 0);
        T.due("in 2", x.breaks(1), 2);
        x.set(4, 0, 0);
        T.due("the next in 2", x.breaks(0), 1);
    }

    // ---- promises 19 to 22

    private static void tellsFirstOther() {
        for (int n = 0; n <= 6; n++) {
            TepidByTreaty x = new TepidByTreaty();
            for (int sheet = 0; sheet < 4; sheet++) {
                int sort = sheet % 3;
                x.sheet(sheet, sort, n);
                for (int m = 0; m < n; m++) x.cell(sheet, m, 77 - 3 * m);
                T.due(n + " so, sheet " + sheet, x.tells(sheet, 0), -1);
                for (int m = n - 1; m >= 0; m--) {
                    x.cell(sheet, m, 78 - 3 * m);
                    T.due("otherwise at " + m, x.tells(sheet, 0), m);
                    x.cell(sheet, m, 76 - 3 * m);
                    T.due("otherwise at " + m, x.tells(sheet, 0), m);
                }
            }
        }
    }

    /** A row of none tells nothing, so all would be so. */
    private static void tellsNothing() {
        TepidByTreaty x = five(GLAD, MAID, 1);
        x.sheet(3, 1, 0);
        T.due("none is otherwise", x.tells(3, 0), -1);
        T.due("texts", x.tells(3, 1), 3);
        int[] all = {63, 1023, 100, 0, 64, 0};
        for (int tens = 1; tens <= 6; tens++) {
            for (int a = 0; a < 5; a++) T.due("tells " + tens + a, x.tells(3, 10 * tens + a), all[tens - 1]);
        }
    }

    private static void tellsKindsAtBothEnds() {
        // by what each takes with a cup in minute 0, NUMBER 2
        int[][] due = {{74, 1}, {72, 0b001010}, {77, 0b000100}, {76, 0b010000}, {80, 0b100000}, {79, 0}};
        for (int[] d : due) {
            TepidByTreaty x = Due.ruled(GLAD);
            for (int a = 0; a < 5; a++) x.aunt(MAID, 2, 0);
            Due.row(x, 0, d[0]);
            for (int a = 0; a < 5; a++) {
                x.set(4, a, 1);
                T.due("kinds of " + a + " by " + d[0], x.tells(0, 10 + a), d[1]);
                x.set(4, a, 0);
            }
        }
    }

    private static void tellsNumbersAtBothEnds() {
        TepidByTreaty x = five(GLAD, PROUD, 0);
        for (int a = 0; a < 5; a++) {
            x.set(4, a, 1);
            for (int number = -1; number <= 10; number++) {
                Due.row(x, 0, 74 - number);
                int due = number < 0 || number > 9 ? 0 : 1 << number;
                T.due("number " + number + " of " + a, x.tells(0, 20 + a), due);
            }
            x.set(4, a, 0);
        }
    }

    private static void tellsThirstsAtBothEnds() {
        int[] bounds = {0, 1, 50, 98, 99, 100};
        for (int t : bounds) {
            TepidByTreaty x = Due.ruled("may thirst<" + t + ";joys 1;cools 0;");
            x.aunt(MAID, 0, 63);
            x.aunt(AUNT, 0, 1);
            x.set(3, 1, 50);
            Due.row(x, 0, 74);
            Due.row(x, 1, 80);
            T.due("below " + t, x.tells(0, 31), t);
            T.due("the least below " + t, x.tells(0, 41), t == 0 ? -1 : 0);
            T.due("from " + t, x.tells(1, 31), 100 - t);
            T.due("the least from " + t, x.tells(1, 41), t == 100 ? -1 : t);
            T.due("of the maid all or none", x.tells(0, 30), t > 50 ? 100 : 0);
            T.due("thirst stays", x.told(1, 3), 50);
        }
    }

    private static void tellsPlansAtBothEnds() {
        TepidByTreaty x = Due.ruled(GLAD);
        x.aunt(MAID, 0, 63);
        x.aunt(AUNT, 0, 7);
        Due.row(x, 0, 80, 80, 80, 80, 80, 80);
        Due.row(x, 1, 74, 68, 62, 56, 50, 44);
        Due.row(x, 2, 80, 80, 80, 80, 80, 74);
        Due.row(x, 3, 80, 80, 80, 80, 80, 73);
        int[][] due = {{1, 0}, {1, 63}, {1, 32}, {0, -1}};
        for (int sheet = 0; sheet < 4; sheet++) {
            T.due("how many, sheet " + sheet, x.tells(sheet, 51), due[sheet][0]);
            T.due("the least, sheet " + sheet, x.tells(sheet, 61), due[sheet][1]);
        }
        T.due("of the maid none", x.tells(0, 50), 0);
        T.due("so none is the least", x.tells(0, 60), -1);
        x.set(4, 1, 0);
        T.due("of the maid all", x.tells(0, 50), 64);
        T.due("least", x.tells(0, 60), 0);
    }

    private static void tellsTextsAtBothEnds() {
        TepidByTreaty x = new TepidByTreaty();
        for (int k = 1; k <= 5; k++) {
            Due.row(x, 0, 77);
            T.due("the first, of " + k, x.tells(0, 1), 1);
            Due.row(x, 0);
            T.due("all that there are, of " + k, x.tells(0, 1), (1 << k) - 1);
            Due.text(x, "may 1;joys 1;cools " + (3 + k) + ";");
            Due.row(x, 0, 77 - k);
            T.due("the last, of " + (k + 1), x.tells(0, 1), 1 << k);
        }
        Due.row(x, 0);
        T.due("all six", x.tells(0, 1), 63);
        T.due("the rule stays", x.count(4), 0);
    }

    private static void filmOfNoneAndOfSix() {
        for (int n = 0; n <= 6; n++) {
            for (int sheet = 0; sheet < 4; sheet += 3) {
                TepidByTreaty x = new TepidByTreaty();
                x.sheet(sheet, 2, 40);
                T.due("film of " + n, x.film(sheet, n), n);
                T.due("it tells what is so", x.tells(sheet, 0), -1);
                T.due("of bytes", x.aunts(sheet, 0, 0, 0), 0);
                T.due("not ints", x.aunts(sheet, 2, 0, 0), -13);
                T.due("no more than " + n, x.cell(sheet, n, 0), -12);
                T.due("no less", x.copy(sheet, 0, sheet, 0, n), n);
                x.set(0, 0, 79);
                T.due("what it tells stays", x.tells(sheet, 0), n == 0 ? -1 : 0);
            }
        }
    }

    private static void filmOfAPotThatIsPoured() {
        TepidByTreaty x = Due.ruled("may number;joys 1;cools 2;");
        x.aunt(AUNT, 1, 0b101011);
        x.aunt(MEEK, 0, 63);
        T.due("film", x.film(0, 6), 6);
        T.due("heat stays", x.told(0, 0), 80);
        T.due("thirst stays", x.told(0, 3), 10);
        x.set(4, 0, 0);
        for (int m = 0; m < 6; m++) {
            // each item by itself: the heat from which it is told, 2 below
            x.sheet(2, 0, 1);
            x.copy(0, m, 2, 0, 1);
            x.set(0, 0, new int[] {74, 66, 64, 56, 54, 46}[m]);
            T.due("heat behind " + m, x.tells(2, 0), -1);
        }
    }

    /** (z >>> 9) % 50, z being z * 1103515245 + 12345 (an int; SEED at first): reckoned without ints. */
    private static long[] thirsts(long seed, int n) {
        long whole = 1L << 32;
        long z = Math.floorMod(seed, whole);
        long[] thirsts = new long[n];
        for (int i = 0; i < n; i++) {
            z = (z * 1103515245L + 12345L) % whole;
            thirsts[i] = z / 512 % 50;
        }
        return thirsts;
    }

    private static void drawnWraps() {
        int[] seeds = {MIN, MIN + 1, -1, 0, 1, MAX - 1, MAX, -1103515245, 65536};
        for (int seed : seeds) {
            for (int n = 1; n <= 5; n++) {
                TepidByTreaty x = Due.ruled("may 1;joys thirst;cools 0;");
                for (int a = 0; a < n; a++) x.aunt(AUNT, 0, 1);
                long all = 0;
                for (long t : thirsts(seed, n)) all += t;
                T.due("drawn(" + seed + ") of " + n, x.drawn(seed), all);
                T.due("thirst stays", x.told(n - 1, 3), 10);
            }
        }
    }

    private static void chanceAtBothEnds() {
        String[] may = {"1", "0"};
        for (int k = 0; k < 2; k++) {
            TepidByTreaty x = Due.ruled("may " + may[k] + ";joys 1;cools 0;");
            x.aunt(AUNT, 0, 32);
            for (int m = 1; m <= 20; m++) {
                T.due("above the line of " + m, x.chance(7, m, 0), 1 - k);
                T.due("below the line of " + m, x.chance(7, m, 1), 1);
            }
        }
    }

    /** SEED and each 1 more (an int). */
    private static void chanceWraps() {
        int[] seeds = {MAX, MAX - 1, MAX - 10, MAX - 19, MAX - 20, MIN, -1, -10, 0};
        TepidByTreaty x = Due.ruled("may thirst<25;joys 1;cools 0;");
        x.aunt(AUNT, 0, 1);
        for (int seed : seeds) {
            for (int m = 1; m <= 20; m++) {
                int quiet = 0;
                for (int i = 0; i < m; i++) quiet += thirsts(seed + (long) i, 1)[0] < 25 ? 1 : 0;
                int by = m;
                while (quiet % by != 0 || m % by != 0) by--;
                T.due("above the line from " + seed + " of " + m, x.chance(seed, m, 0), quiet / by);
                T.due("below the line from " + seed + " of " + m, x.chance(seed, m, 1), m / by);
            }
        }
    }

    // ---- promises 23 to 25

    private static void imageOfFive() {
        TepidByTreaty x = five("may 1;joys thirst;cools 2;", MEEK, 9);
        for (int a = 0; a < 5; a++) x.set(3, a, 20 + a);
        x.hour();
        int[][] told = new int[5][8];
        for (int a = 0; a < 5; a++) {
            for (int what = 0; what < 8; what++) told[a][what] = x.told(a, what);
        }
        T.due("image", x.image(), 5);
        for (int a = 0; a < 5; a++) {
            x.set(2, a, 9);
            x.set(3, a, 99);
            x.set(4, a, 63);
        }
        x.hour();
        x.force(0);
        T.due("back", x.back(), 5);
        for (int a = 0; a < 5; a++) {
            for (int what = 0; what < 8; what++) T.due("as it was, " + what + " of " + a, x.told(a, what), told[a][what]);
        }
        T.due("the rule", x.count(4), 1);
        T.due("full as it was", x.aunt(0, 0, 0), -4);
        x.settle();
        T.due("back twice", x.back(), 5);
        T.due("plan", x.told(4, 4), 9);
    }

    private static void imageAnew() {
        TepidByTreaty x = new TepidByTreaty();
        for (int a = 0; a <= 5; a++) {
            x.set(0, 0, 10 * a);
            T.due("image of " + a, x.image(), a);
            x.set(0, 0, 99);
            x.aunt(a, a, a);
            T.due("back to " + a, x.back(), a);
            T.due("heat", x.told(0, 0), 10 * a);
            T.due("she that came since is gone", x.told(a, 5), -1000000);
            x.aunt(a, a, a);
        }
        T.due("five", x.count(0), 5);
    }

    private static void countAtBothEnds() {
        TepidByTreaty x = five(GLAD, AUNT, 0);
        for (int k = 2; k <= 5; k++) Due.text(x, GLAD);
        for (int a = 0; a < 5; a++) x.set(3, a, 99);
        x.set(1, 0, 999);
        x.force(5);
        for (int k = 0; k < 160; k++) x.feed(0);
        int[] most = {5, 999, 6, 160, 5, 495};
        for (int what = 0; what < 6; what++) T.due("most of " + what, x.count(what), most[what]);
        for (int a = 0; a < 5; a++) x.set(3, a, 0);
        T.due("nobody thirsty", x.count(5), 0);
    }

    // ---- promises 26 to 30

    private static void sheetAtBothEnds() {
        TepidByTreaty x = new TepidByTreaty();
        for (int sheet = 0; sheet < 4; sheet++) {
            for (int sort = 0; sort < 3; sort++) {
                T.due("of 40", x.sheet(sheet, sort, 40), 1);
                T.due("the last", x.cell(sheet, 39, 1), 1);
                T.due("none beyond", x.cell(sheet, 40, 1), -12);
                T.due("of none", x.sheet(sheet, sort, 0), 1);
                T.due("no item", x.cell(sheet, 0, 1), -12);
                T.due("of one", x.sheet(sheet, sort, 1), 1);
                T.due("the only", x.cell(sheet, 0, 1), 1);
                T.due("none beyond", x.cell(sheet, 1, 1), -12);
            }
            int[] sizes = {0, -1, 40, 41, MIN, MAX};
            for (int n : sizes) {
                x.sheet(sheet, 0, 1);
                T.due("missing, n " + n, x.sheet(sheet, -1, n), 1);
                T.due("is it", x.cell(sheet, 0, 0), -11);
            }
        }
    }

    /** all 0. */
    private static void sheetAnewIsAllNothing() {
        for (int sort = 0; sort < 3; sort++) {
            TepidByTreaty x = new TepidByTreaty();
            x.set(0, 0, 0);
            x.sheet(0, sort, 40);
            for (int i = 0; i < 40; i++) x.cell(0, i, 1);
            x.sheet(0, sort, 6);
            T.due("six of 0", x.tells(0, 0), -1);
            x.sheet(0, sort, 40);
            for (int i = 0; i < 40; i += 4) {
                x.sheet(1, sort, 4);
                x.cell(1, 3, 1);
                T.due("four of them", x.copy(0, i, 1, 0, 4), 4);
                T.due("are 0", x.tells(1, 0), -1);
            }
        }
    }

    private static boolean isAuntBy(int sort, int v) {
        TepidByTreaty x = new TepidByTreaty();
        x.sheet(0, sort, 3);
        T.due("cell", x.cell(0, 2, v), 1);
        int came = x.aunts(0, sort, 0, 1);
        if (came == 1) T.due("plan by " + v, x.told(0, 4), v & 63);
        return came == 1;
    }

    /** of bytes, shorts its lowest 8, 16 bits. */
    private static void cellCutsToItsSort() {
        int[] values = {
            0, 63, 64, 127, 128, 255, 256, 319, 320, 511, 32767, 32768, 65535, 65536, 65599, 65600, 65792, MAX, MIN, MIN + 63,
            -1, -128, -129, -192, -193, -256, -32768, -32769, -65535, -65536, -65537};
        for (int v : values) {
            T.due("a byte of " + v, isAuntBy(0, v) ? 1 : 0, (v & 0xff) < 64 ? 1 : 0);
            T.due("a short of " + v, isAuntBy(1, v) ? 1 : 0, (v & 0xffff) < 64 ? 1 : 0);
            T.due("an int of " + v, isAuntBy(2, v) ? 1 : 0, v >= 0 && v < 64 ? 1 : 0);
        }
    }

    private static void copyAtBothEnds() {
        for (int sort = 0; sort < 3; sort++) {
            TepidByTreaty x = new TepidByTreaty();
            x.sheet(0, sort, 40);
            x.sheet(3, sort, 40);
            for (int m = 0; m < 6; m++) {
                x.cell(0, m, 77 - 3 * m);
                x.cell(0, 34 + m, 77 - 3 * m);
            }
            T.due("all", x.copy(0, 0, 3, 0, 40), 40);
            x.sheet(1, sort, 6);
            T.due("the first six", x.copy(3, 0, 1, 0, 6), 6);
            T.due("are so", x.tells(1, 0), -1);
            x.sheet(1, sort, 6);
            T.due("the last six", x.copy(3, 34, 1, 0, 6), 6);
            T.due("are so", x.tells(1, 0), -1);
            x.cell(0, 39, 1);
            T.due("a copy is its own", x.copy(3, 39, 1, 5, 1), 1);
            T.due("is so", x.tells(1, 0), -1);
            x.sheet(3, sort, 40);
            T.due("to the last six", x.copy(1, 0, 3, 34, 6), 6);
            x.sheet(1, sort, 6);
            T.due("and back", x.copy(3, 34, 1, 0, 6), 6);
            T.due("are so", x.tells(1, 0), -1);
        }
    }

    /** (as they were): also where it copies on itself, forth, back and on the spot. */
    private static void copyOverItself() {
        for (int shift = -6; shift <= 6; shift++) {
            for (int sort = 0; sort < 3; sort++) {
                TepidByTreaty x = new TepidByTreaty();
                x.sheet(0, sort, 18);
                for (int m = 0; m < 6; m++) x.cell(0, 6 + m, 77 - 3 * m);
                T.due("shift " + shift, x.copy(0, 6, 0, 6 + shift, 6), 6);
                x.sheet(1, sort, 6);
                x.copy(0, 6 + shift, 1, 0, 6);
                T.due("as they were", x.tells(1, 0), -1);
                // where nothing came, they are still
                int kept = Math.min(6, Math.abs(shift));
                int from = shift >= 0 ? 0 : 6 - kept;
                x.sheet(1, sort, 6);
                for (int m = 0; m < 6; m++) x.cell(1, m, 77 - 3 * m);
                x.copy(0, 6 + from, 1, from, kept);
                T.due("those that stayed", x.tells(1, 0), -1);
            }
        }
    }

    private static void copyOfNone() {
        TepidByTreaty x = new TepidByTreaty();
        Due.row(x, 0, 77, 74);
        Due.row(x, 1, 77, 74, 71);
        T.due("none", x.copy(0, 0, 1, 0, 0), 0);
        T.due("none to the last", x.copy(0, 1, 1, 2, 0), 0);
        T.due("nothing came", x.tells(1, 0), -1);
        x.sheet(2, 2, 0);
        x.sheet(3, 2, 0);
        T.due("none of none", x.copy(2, 0, 3, 0, 0), 0);
        T.due("one of none", x.copy(2, 0, 3, 0, 1), -12);
    }

    private static void auntsAtBothEnds() {
        for (int sort = 0; sort < 3; sort++) {
            TepidByTreaty x = new TepidByTreaty();
            x.sheet(3, sort, 40);
            for (int k = 0; k < 5; k++) {
                x.cell(3, 25 + 3 * k, k + 1);
                x.cell(3, 26 + 3 * k, 9 - k);
                x.cell(3, 27 + 3 * k, 63 - k);
            }
            T.due("none", x.aunts(3, sort, 0, 0), 0);
            T.due("nobody", x.count(0), 0);
            x.image();
            T.due("the first place", x.aunts(3, sort, 0, 1), 1);
            T.due("of all 0", x.told(0, 5), 0);
            x.back();
            T.due("five at the end", x.aunts(3, sort, 25, 5), 5);
            for (int a = 0; a < 5; a++) {
                int[] told = {9 - a, 10, 63 - a, a + 1, 0};
                for (int what = 2; what <= 6; what++) T.due("told(" + a + ", " + what + ")", x.told(a, what), told[what - 2]);
            }
            x.back();
            T.due("the last three", x.aunts(3, sort, 37, 1), 1);
            T.due("the fifth of them", x.told(0, 5), 5);
        }
    }

    /** how many came (others are left out): those who are BAD, and those for whom there is no room. */
    private static void auntsLeftOut() {
        TepidByTreaty x = new TepidByTreaty();
        Due.row(x, 0, 6, 0, 0, 0, 10, 0, 0, 0, 64, -1, 0, 0, 5, 9, 63);
        T.due("the last alone", x.aunts(0, 2, 0, 5), 1);
        T.due("kind", x.told(0, 5), 5);
        T.due("none of four", x.aunts(0, 2, 0, 4), 0);
        Due.row(x, 1, 0, -1, 0, 0, 0, -1, 1, 0, 0, 2, 0, 0, 3, 0, 0);
        T.due("three of five", x.aunts(1, 2, 0, 5), 3);
        T.due("one has room", x.aunts(1, 2, 6, 3), 1);
        T.due("she is the first of them", x.told(4, 5), 1);
        T.due("no more", x.aunts(1, 2, 6, 3), 0);
        T.due("five", x.count(0), 5);
    }

    /** -12: what stood ahead came. */
    private static void auntsOutsideBehindSome() {
        for (int n = 1; n <= 5; n++) {
            for (int few = 1; few <= 3; few++) {
                TepidByTreaty x = new TepidByTreaty();
                x.sheet(0, 1, 3 * n - few);
                T.due("outside", x.aunts(0, 1, 0, n), -12);
                T.due("those ahead came", x.count(0), n - 1);
                TepidByTreaty y = new TepidByTreaty();
                y.sheet(0, 1, 3 * n);
                T.due("outside from " + few, y.aunts(0, 1, few, n), -12);
                T.due("those ahead came", y.count(0), n - 1);
                TepidByTreaty z = new TepidByTreaty();
                z.sheet(0, 1, 3 * n);
                T.due("outside from " + -few, z.aunts(0, 1, -few, n), -12);
                T.due("nobody came", z.count(0), 0);
            }
        }
    }

    /** one of KIND k, or one under that one (also by others between): her NUMBER. */
    private static void taken() {
        int[] numbers = {0, 9};
        for (int number : numbers) {
            TepidByTreaty x = new TepidByTreaty();
            x.aunt(LAME, number, 0);
            x.aunt(SLY, number, 0);
            x.aunt(MAID, number, 0);
            int[][] of = {{LAME, PROUD, AUNT}, {SLY, MEEK, AUNT}, {MAID, MAID, AUNT}};
            for (int a = 0; a < 3; a++) {
                for (int k = 0; k < 6; k++) {
                    boolean isOne = k == of[a][0] || k == of[a][1] || k == of[a][2];
                    T.due("taken(" + a + ", " + k + ")", x.taken(a, k), isOne ? number : -13);
                }
            }
        }
        TepidByTreaty five = new TepidByTreaty();
        for (int a = 0; a < 5; a++) five.aunt(a, a, 0);
        for (int a = 0; a < 5; a++) {
            T.due("of her own kind", five.taken(a, a), a);
            T.due("an aunt", five.taken(a, 0), a);
            T.due("no kind 6", five.taken(a, 6), -2);
            T.due("no kind -1", five.taken(a, -1), -2);
        }
        T.due("nobody", five.taken(5, 0), -11);
    }
}
