/** Promises 8 to 11: minute, share, cups, hour; what the kinds show, enjoy and take. */
public final class HourTest {
    private static final Due T = new Due("HourTest");
    private static final int MAX = Integer.MAX_VALUE, MIN = Integer.MIN_VALUE;
    private static final int AUNT = 0, PROUD = 1, MEEK = 2, LAME = 3, SLY = 4, MAID = 5;

    public static void main(String[] args) {
        showsByThirst();
        showsByMinute();
        joys();
        takes();
        heatAtLeastZero();
        thirstBounds();
        orderOfAunts();
        shownIsToldAtTheBeginning();
        minuteBits();
        minuteRefuses();
        shareAndCups();
        hourTruly();
        hourAt999();
        eachHourAnew();
        fiveAunts();
        thoughtChangesNothing();
        T.end();
    }

    private static TepidByTreaty one(String rule, int kind, int number, int plan, int thirst) {
        TepidByTreaty x = Due.ruled(rule);
        x.aunt(kind, number, plan);
        x.set(3, 0, thirst);
        return x;
    }

    private static void shows(int kind, int number, int thirst, int want) {
        TepidByTreaty x = new TepidByTreaty();
        x.aunt(kind, number, 0);
        x.set(3, 0, thirst);
        T.due("kind " + kind + " number " + number + " shows by thirst " + thirst, x.minute(0, 1), want);
    }

    private static void showsByThirst() {
        shows(AUNT, 9, 20, 0);
        shows(AUNT, 9, 21, 1);
        shows(PROUD, 0, 20, 0);
        shows(PROUD, 0, 21, 1);
        shows(PROUD, 3, 35, 0);
        shows(PROUD, 3, 36, 1);
        shows(PROUD, 9, 65, 0);
        shows(PROUD, 9, 66, 1);
        shows(MEEK, 5, 0, 0);
        shows(MEEK, 5, 1, 1);
        shows(LAME, 3, 35, 0);
        shows(LAME, 3, 36, 1);
        shows(SLY, 0, 0, 0);
        shows(SLY, 0, 1, 1);
        shows(SLY, 1, 99, 0);
        shows(MAID, 0, 99, 0);
    }

    private static void showsIn(int kind, int number, int thirst, int... want) {
        TepidByTreaty x = new TepidByTreaty();
        x.aunt(kind, number, 0);
        x.set(3, 0, thirst);
        for (int m = 0; m < 6; m++) {
            T.due("kind " + kind + " number " + number + " in minute " + m, x.minute(m, 1), want[m]);
        }
    }

    private static void showsByMinute() {
        showsIn(AUNT, 0, 17, 0, 0, 1, 1, 1, 1);
        showsIn(AUNT, 0, 18, 0, 0, 1, 1, 1, 1);
        showsIn(AUNT, 0, 16, 0, 0, 0, 1, 1, 1);
        showsIn(PROUD, 2, 26, 0, 0, 0, 1, 1, 1);
        showsIn(MEEK, 0, 0, 0, 1, 1, 1, 1, 1);
        showsIn(LAME, 0, 0, 0, 1, 0, 1, 0, 1);
        showsIn(LAME, 0, 17, 0, 1, 1, 1, 1, 1);
        showsIn(SLY, 3, 50, 0, 0, 0, 1, 1, 1);
        showsIn(SLY, 5, 0, 0, 0, 0, 0, 0, 1);
        showsIn(SLY, 9, 50, 0, 0, 0, 0, 0, 0);
        showsIn(MAID, 0, 90, 0, 0, 0, 0, 0, 0);
    }

    private static void joy(int kind, int number, String v, int h, int want) {
        TepidByTreaty x = one("may 1; joys " + v + "; cools 0;", kind, number, 1, 50);
        x.set(0, 0, h);
        T.due("joy of kind " + kind + " number " + number + " told " + v + " at " + h, x.share(0), want);
    }

    private static void joys() {
        joy(AUNT, 4, "10", 60, 10);
        joy(AUNT, 4, "-7", 61, -7);
        joy(PROUD, 4, "10", 61, 20);
        joy(PROUD, 4, "10", 60, 0);
        joy(PROUD, 4, "-7", 61, -14);
        joy(MEEK, 4, "10", 0, 14);
        joy(MEEK, 4, "-7", 99, -3);
        joy(MEEK, 9, "99", 99, 108);
        joy(LAME, 4, "10", 61, 23);
        joy(LAME, 4, "10", 60, 3);
        joy(LAME, 4, "-7", 61, -11);
        joy(SLY, 4, "10", 0, 7);
        joy(SLY, 3, "10", 0, 6);
        joy(SLY, 4, "-7", 0, -1);
        joy(SLY, 3, "-4", 0, 0);
        joy(MAID, 9, "50", 99, 1);
        joy(MAID, 9, "-50", 0, 1);
        TepidByTreaty x = one("may 1; joys 10; cools 1;", PROUD, 0, 1, 50);
        x.set(0, 0, 61);
        T.due("the heat of a cup is that behind the cooling", x.share(0), 0);
        x.set(0, 0, 62);
        T.due("and ahead of the taking", x.share(0), 20);
    }

    private static void takes() {
        int[] takes = {6, 8, 3, 8, 4, 0};
        for (int kind = 0; kind < 6; kind++) {
            TepidByTreaty x = one("may 1; joys 1; cools 0;", kind, 2, 4, 50);
            T.due("heat ahead, kind " + kind, x.minute(1, 0), 80);
            T.due("heat behind, kind " + kind, x.minute(2, 0), 80 - takes[kind]);
            T.due("heat later, kind " + kind, x.minute(5, 0), 80 - takes[kind]);
        }
    }

    private static void heatAtLeastZero() {
        TepidByTreaty x = one("may 1; joys heat+1; cools 2;", AUNT, 0, 63, 50);
        x.set(0, 0, 7);
        T.due("heat is 0 at least by taking", x.minute(0, 0), 0);
        T.due("and by cooling", x.minute(1, 0), 0);
        T.due("joys 6, then 1 each", x.share(0), 11);
    }

    private static void thirstBounds() {
        TepidByTreaty x = one("may 1; joys 1; cools 0;", AUNT, 0, 0, 95);
        x.hour();
        T.due("thirst is 99 at most", x.told(0, 3), 99);
        x = one("may 1; joys 1; cools 0;", AUNT, 0, 0, 87);
        x.hour();
        T.due("2 in each minute", x.told(0, 3), 99);
        x = one("may 1; joys 1; cools 0;", AUNT, 0, 0, 86);
        x.hour();
        T.due("not cut below 99", x.told(0, 3), 98);
        x = one("may 1; joys 1; cools 0;", AUNT, 0, 1, 5);
        x.hour();
        T.due("thirst is 0 at least", x.told(0, 3), 12);
        x = one("may 1; joys 1; cools 0;", MAID, 0, 3, 50);
        x.hour();
        T.due("a MAID's cups are cups too", x.told(0, 3), 42);
        x = one("may 0; joys 1; cools 0;", AUNT, 0, 63, 50);
        x.hour();
        T.due("who may not pour stays thirsty", x.told(0, 3), 62);
    }

    private static void orderOfAunts() {
        TepidByTreaty x = Due.ruled("may 70<heat; joys heat; cools 1;");
        x.aunt(AUNT, 0, 1);
        x.aunt(AUNT, 0, 1);
        x.aunt(AUNT, 0, 1);
        T.due("by numbers: 79", x.share(0), 79);
        T.due("then 73", x.share(1), 73);
        T.due("then she may not, at 67", x.share(2), 0);
        T.due("who poured", x.minute(0, 2), 3);
        T.due("who might not", x.minute(0, 3), 4);
        T.due("heat", x.minute(0, 0), 67);
    }

    private static void shownIsToldAtTheBeginning() {
        TepidByTreaty x = new TepidByTreaty();
        x.aunt(AUNT, 0, 1);
        x.aunt(AUNT, 0, 1);
        x.set(3, 0, 25);
        T.due("she who shows may, for no other does", x.cups(0), 1);
        T.due("her cup comes too late for the other one", x.cups(1), 0);
        T.due("shows", x.minute(0, 1), 1);
        T.due("in the next minute nobody shows", x.minute(1, 1), 0);
        x.set(4, 1, 3);
        T.due("then she may", x.cups(1), 1);
    }

    private static void minuteBits() {
        TepidByTreaty x = Due.ruled("may minute<number; joys 1; cools minute;");
        x.aunt(MAID, 0, 63);
        x.aunt(MAID, 2, 63);
        x.aunt(MAID, 4, 0b101010);
        x.aunt(MEEK, 9, 0);
        x.aunt(LAME, 9, 0);
        int[] heat = {80, 79, 77, 74, 70, 65};
        int[] shows = {8, 24, 8, 24, 8, 24};
        int[] pours = {2, 6, 0, 4, 0, 0};
        int[] mayNot = {1, 1, 3, 3, 3, 7};
        for (int m = 0; m < 6; m++) {
            T.due("heat " + m, x.minute(m, 0), heat[m]);
            T.due("shows " + m, x.minute(m, 1), shows[m]);
            T.due("pours " + m, x.minute(m, 2), pours[m]);
            T.due("may not " + m, x.minute(m, 3), mayNot[m]);
        }
        T.due("share of all", x.share(-1), 4);
        T.due("cups", x.cups(2), 2);
    }

    private static void minuteRefuses() {
        TepidByTreaty x = new TepidByTreaty();
        int[][] bad = {{-1, 0}, {6, 0}, {0, -1}, {0, 4}, {MAX, 0}, {MIN, 0}, {0, MAX}, {0, MIN}};
        for (int[] b : bad) {
            T.due("minute(" + b[0] + ", " + b[1] + ")", x.minute(b[0], b[1]), -2);
        }
    }

    private static void shareAndCups() {
        TepidByTreaty x = new TepidByTreaty();
        T.due("share of all of nobody", x.share(-1), 0);
        T.due("share(0) of nobody", x.share(0), -1000000);
        T.due("cups(0) of nobody", x.cups(0), -2);
        x.aunt(AUNT, 0, 3);
        x.aunt(MEEK, 5, 4);
        x.set(3, 1, 0);
        // minute 0: 77; the MEEK shows from minute 1 on; minute 2: 65 and 5
        T.due("share(0)", x.share(0), 77);
        T.due("share(1)", x.share(1), 70);
        T.due("share(-1)", x.share(-1), 147);
        T.due("cups(0)", x.cups(0), 1);
        T.due("cups(1)", x.cups(1), 1);
        int[] none = {2, -2, MAX, MIN};
        for (int n : none) {
            T.due("share(" + n + ")", x.share(n), -1000000);
            T.due("cups(" + n + ")", x.cups(n), -2);
        }
        T.due("cups(-1)", x.cups(-1), -2);
    }

    private static void hourTruly() {
        TepidByTreaty x = Due.ruled("may 1; joys heat-70; cools 1;");
        x.aunt(AUNT, 0, 1);
        x.aunt(SLY, 1, 2);
        // 79: 9, to 73; 72: 2 and 1, half: 1, to 68; 67, 66, 65, 64
        T.due("hour", x.hour(), 10);
        T.due("heat", x.told(0, 0), 64);
        T.due("hour is 1 more", x.told(0, 1), 1);
        T.due("thirst", x.told(0, 3), 12);
        T.due("thirst of the other", x.told(1, 3), 12);
        T.due("had", x.told(0, 6), 9);
        T.due("had, the other", x.told(1, 6), 1);
        // 63: -7, to 57; 56: -14 and 1, half: -6
        T.due("hour again", x.hour(), -13);
        T.due("had", x.told(0, 6), 2);
        T.due("had, the other", x.told(1, 6), -5);
        T.due("hour is 2", x.count(1), 2);
        T.due("plan stays", x.told(1, 4), 2);
        T.due("number stays", x.told(1, 2), 1);
        TepidByTreaty empty = new TepidByTreaty();
        T.due("hour of nobody", empty.hour(), 0);
        T.due("heat", empty.told(0, 0), 62);
        T.due("hour", empty.told(0, 1), 1);
    }

    private static void hourAt999() {
        TepidByTreaty x = new TepidByTreaty();
        x.aunt(AUNT, 0, 1);
        x.set(1, 0, 998);
        T.due("hour at 998", x.hour(), 77);
        T.due("is 999", x.count(1), 999);
        T.due("hour at 999", x.hour(), -1000000);
        T.due("is still 999", x.count(1), 999);
        T.due("heat", x.told(0, 0), 56);
        T.due("had", x.told(0, 6), 77);
        T.due("in thought an hour still goes", x.share(0), 53);
    }

    private static void eachHourAnew() {
        TepidByTreaty x = Due.ruled("may heat<75; joys 1; cools 0;");
        x.aunt(MEEK, 0, 1);
        x.set(3, 0, 1);
        x.set(0, 0, 70);
        T.due("pours", x.minute(0, 2), 1);
        T.due("may", x.minute(0, 3), 0);
        T.due("cups", x.cups(0), 1);
        x.set(0, 0, 80);
        T.due("pours no more", x.minute(0, 2), 0);
        T.due("may no more", x.minute(0, 3), 1);
        T.due("no cup", x.cups(0), 0);
        T.due("no joy", x.share(0), 0);
        x.set(0, 0, 70);
        x.set(3, 0, 0);
        T.due("may again", x.minute(0, 3), 0);
        T.due("shows no more", x.minute(0, 1), 0);
    }

    private static void fiveAunts() {
        TepidByTreaty x = Due.ruled("may 1; joys 3; cools 0;");
        for (int kind = 0; kind < 5; kind++) {
            x.aunt(kind, 1, 1);
        }
        // 80: 3, to 74; 6, to 67; 4, to 64; 6 and 3, to 57; half of 4, to 53
        int[] joy = {3, 6, 4, 9, 2};
        for (int a = 0; a < 5; a++) {
            T.due("joy of kind " + a, x.share(a), joy[a]);
        }
        T.due("settle: all but the PROUD, for it is too cold in minute 1", x.settle(), 4);
        T.due("rest", x.rest(), 1);
        for (int a = 0; a < 5; a++) {
            x.set(4, a, 1);
        }
        T.due("drawn", x.drawn(5), 24);
        T.due("chance", x.chance(5, 20, 0), 1);
        T.due("greediest", x.greediest(0), 3);
        T.due("together", x.together(3, 4, 0), 1515);
        T.due("hour", x.hour(), 24);
        T.due("had", x.told(4, 6), 2);
        T.due("heat", x.told(0, 0), 53);
    }

    private static void thoughtChangesNothing() {
        TepidByTreaty x = new TepidByTreaty();
        x.aunt(AUNT, 3, 9);
        x.aunt(SLY, 2, 18);
        x.minute(5, 0);
        x.share(-1);
        x.cups(0);
        x.best(0, 0);
        x.rest();
        x.greediest(0);
        x.together(0, 1, 0);
        x.hotter(100);
        x.breaks(0);
        x.film(0, 4);
        for (int what = 0; what < 70; what++) {
            x.tells(0, what);
        }
        x.drawn(3);
        x.chance(3, 5, 0);
        int[][] told = {{80, 0, 3, 10, 9, 0, 0}, {80, 0, 2, 10, 18, 4, 0}};
        for (int of = 0; of < 2; of++) {
            for (int what = 0; what < 7; what++) {
                T.due("told(" + of + ", " + what + ")", x.told(of, what), told[of][what]);
            }
        }
        T.due("the rule", x.count(4), 0);
        T.due("aunts", x.count(0), 2);
    }
}
