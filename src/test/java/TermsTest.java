import java.util.ArrayList;
import java.util.List;

/** The Terms, sentence by sentence, at the bounds that they name and one step beyond on either side. */
public final class TermsTest {
    private static final Due T = new Due("TermsTest");
    private static final int AUNT = 0, PROUD = 1, MEEK = 2, LAME = 3, SLY = 4, MAID = 5;

    /** 2147483647, of numbers of four digits. */
    private static final String MOST = "(9999*9999*21+9999*4790+8416)";

    public static void main(String[] args) {
        minutesAre0To5();
        atFirst();
        hadIsNotCutTooEarly();
        hadHasBounds();
        showsByThirst();
        showsByMinute();
        joyAtHeat60();
        joyIsCutTowardNothing();
        takesByNumber();
        heatIsNothingAtLeast();
        thirstHasBounds();
        thirstIsMoreEveryMinute();
        ofWhomShownIsTold();
        cupsAndMinuteAtTheirEnds();
        joysHasBounds();
        coolsHasBounds();
        intsWrap();
        mayIsAnythingButNothing();
        quietOrLoud();
        T.end();
    }

    // ---- 1: the pot and who sits round it

    /** MINUTES 0 .. 5; PLAN: bits 0 .. 5. */
    private static void minutesAre0To5() {
        for (int plan = 0; plan < 64; plan++) {
            TepidByTreaty x = Due.ruled("may 1;joys 1;cools 0;");
            x.aunt(MAID, 0, plan);
            T.due("cups by plan " + plan, x.cups(0), Integer.bitCount(plan));
            for (int m = 0; m < 6; m++) {
                T.due("pours by plan " + plan + " in " + m, x.minute(m, 2), plan >> m & 1);
            }
        }
    }

    /** HEAT 80 at first, HOUR 0 at first; THIRST 10 as one comes, HAD 0 as one comes. */
    private static void atFirst() {
        TepidByTreaty x = new TepidByTreaty();
        T.due("heat at first", x.told(0, 0), 80);
        T.due("hour at first", x.told(0, 1), 0);
        for (int kind = 0; kind < 5; kind++) {
            // the pot and the others have changed since, and she comes as each does
            x.set(0, 0, 3 * kind);
            x.hour();
            x.aunt(kind, 9, 63);
            T.due("thirst as one comes, kind " + kind, x.told(kind, 3), 10);
            T.due("had as one comes, kind " + kind, x.told(kind, 6), 0);
        }
    }

    /** HAD -999999 .. 999999: as far as 512 calls go, it is what she had. */
    private static void hadIsNotCutTooEarly() {
        TepidByTreaty x = Due.ruled("may 1;joys 99;cools 0;");
        x.aunt(MEEK, 9, 63);
        TepidByTreaty y = Due.ruled("may 1;joys 0-99;cools 0;");
        y.aunt(MEEK, 0, 63);
        for (int hour = 1; hour <= 470; hour++) {
            x.hour();
            y.hour();
        }
        T.due("had of 470 glad hours", x.told(0, 6), 470 * 6 * 108);
        T.due("had of 470 sad hours", y.told(0, 6), 470 * 6 * -99);
    }

    /** HAD -999999 .. 999999, else the bound: further than 512 calls go, so what she had is laid into the object. */
    private static void hadHasBounds() {
        // an hour of 648 or of -594 from here
        hadBound("99", 9, 648, 999999 - 649, 999998);
        hadBound("99", 9, 648, 999999 - 648, 999999);
        hadBound("99", 9, 648, 999999 - 647, 999999);
        hadBound("99", 9, 648, 999999, 999999);
        hadBound("0-99", 0, -594, -999999 + 595, -999998);
        hadBound("0-99", 0, -594, -999999 + 594, -999999);
        hadBound("0-99", 0, -594, -999999 + 593, -999999);
        hadBound("0-99", 0, -594, -999999, -999999);
    }

    private static void hadBound(String joys, int number, int anHour, int ahead, int behind) {
        TepidByTreaty x = Due.ruled("may 1;joys " + joys + ";cools 0;");
        x.aunt(MEEK, number, 63);
        for (int hour = 0; hour < 7; hour++) x.hour();
        T.due("had of seven hours", x.told(0, 6), 7 * anHour);
        Inside.puts(x, 7 * anHour, ahead);
        if (x.told(0, 6) != ahead) {
            System.out.println("TermsTest: HAD is not held as an int, so its bound is not asked");
            return;
        }
        T.due("an hour's joy", x.hour(), anHour);
        T.due("had " + ahead + " and " + anHour, x.told(0, 6), behind);
    }

    // ---- what kinds show, enjoy and take

    private static int showsAt(int kind, int number, int thirst, int m) {
        TepidByTreaty x = new TepidByTreaty();
        x.aunt(kind, number, 0);
        x.set(3, 0, thirst);
        return x.minute(m, 1);
    }

    /** AUNT above 20; PROUD above 5 times NUMBER and 20; MEEK above 0; LAME as a PROUD; SLY as a MEEK; MAID no. */
    private static void showsByThirst() {
        int[] edges = {0, 1, 19, 20, 21, 22, 98, 99};
        for (int number = 0; number < 10; number++) {
            for (int thirst : edges) {
                T.due("AUNT " + number + " by " + thirst, showsAt(AUNT, number, thirst, 0), thirst > 20 ? 1 : 0);
                T.due("MEEK " + number + " by " + thirst, showsAt(MEEK, number, thirst, 0), thirst > 0 ? 1 : 0);
                T.due("MAID " + number + " by " + thirst, showsAt(MAID, number, thirst, 0), 0);
            }
            for (int off = -1; off <= 2; off++) {
                int thirst = 5 * number + 20 + off;
                T.due("PROUD " + number + " by " + thirst, showsAt(PROUD, number, thirst, 0), off > 0 ? 1 : 0);
                T.due("LAME " + number + " by " + thirst, showsAt(LAME, number, thirst, 0), off > 0 ? 1 : 0);
            }
        }
        T.due("SLY 0 by 0", showsAt(SLY, 0, 0, 0), 0);
        T.due("SLY 0 by 1", showsAt(SLY, 0, 1, 0), 1);
    }

    /** LAME: or if m is odd; SLY: not if m is below NUMBER; the others by THIRST alone. */
    private static void showsByMinute() {
        for (int m = 0; m < 6; m++) {
            T.due("LAME, not thirsty, in " + m, showsAt(LAME, 9, 0, m), m % 2);
            T.due("LAME, thirsty, in " + m, showsAt(LAME, 0, 50, m), 1);
            for (int number = 0; number < 10; number++) {
                T.due("SLY " + number + " in " + m, showsAt(SLY, number, 50, m), m < number ? 0 : 1);
            }
            int[] kinds = {AUNT, PROUD, MEEK};
            for (int kind : kinds) {
                T.due("kind " + kind + " in " + m, showsAt(kind, 5, 80, m), 1);
            }
            T.due("MAID in " + m, showsAt(MAID, 0, 80, m), 0);
        }
    }

    private static int joyOf(int kind, int number, String v, int heat) {
        TepidByTreaty x = Due.ruled("may 1;joys " + v + ";cools 0;");
        x.aunt(kind, number, 1);
        x.set(0, 0, heat);
        return x.share(0);
    }

    /** PROUD: twice an AUNT's, if h is above 60, else 0; LAME: 3 more than a PROUD. */
    private static void joyAtHeat60() {
        int[] heats = {0, 59, 60, 61, 62, 99};
        for (int h : heats) {
            boolean hot = h > 60;
            T.due("PROUD at " + h, joyOf(PROUD, 4, "7", h), hot ? 14 : 0);
            T.due("LAME at " + h, joyOf(LAME, 4, "7", h), hot ? 17 : 3);
            T.due("PROUD, sad, at " + h, joyOf(PROUD, 4, "-7", h), hot ? -14 : 0);
            T.due("LAME, sad, at " + h, joyOf(LAME, 4, "-7", h), hot ? -11 : 3);
            T.due("AUNT at " + h, joyOf(AUNT, 4, "7", h), 7);
            T.due("MEEK at " + h, joyOf(MEEK, 4, "7", h), 11);
            T.due("SLY at " + h, joyOf(SLY, 4, "7", h), 5);
            T.due("MAID at " + h, joyOf(MAID, 4, "7", h), 1);
        }
    }

    /** SLY: half (cut) of a MEEK's; quotients are cut toward 0. */
    private static void joyIsCutTowardNothing() {
        for (int v = -12; v <= 3; v++) {
            int meek = v + 4;
            int half = Math.abs(meek) / 2;
            T.due("MEEK by " + v, joyOf(MEEK, 4, "" + v, 50), meek);
            T.due("SLY by " + v, joyOf(SLY, 4, "" + v, 50), meek < 0 ? -half : half);
            T.due("MAID by " + v, joyOf(MAID, 4, "" + v, 50), 1);
        }
    }

    /** AUNT 6, PROUD NUMBER more, MEEK half, LAME as a PROUD, SLY 1 more than a MEEK, MAID 0. */
    private static void takesByNumber() {
        for (int number = 0; number < 10; number++) {
            int[] takes = {6, 6 + number, 3, 6 + number, 4, 0};
            for (int kind = 0; kind < 6; kind++) {
                TepidByTreaty x = Due.ruled("may 1;joys 1;cools 0;");
                x.aunt(kind, number, 1);
                T.due("kind " + kind + " with " + number + " takes", x.told(0, 7), takes[kind]);
                T.due("and so the heat is", x.minute(0, 0), 80 - takes[kind]);
            }
        }
    }

    // ---- 2: a minute

    /** HEAT is less by cools (0 at least), and by what she TAKES (0 at least). */
    private static void heatIsNothingAtLeast() {
        for (int heat = 0; heat <= 9; heat++) {
            TepidByTreaty x = Due.ruled("may 1;joys heat;cools 5;");
            x.set(0, 0, heat);
            T.due("cooled from " + heat, x.minute(0, 0), Math.max(0, heat - 5));
            T.due("and again", x.minute(1, 0), Math.max(0, heat - 10));
            TepidByTreaty y = Due.ruled("may 1;joys heat;cools 0;");
            y.aunt(AUNT, 0, 3);
            y.set(0, 0, heat);
            T.due("taken from " + heat, y.minute(0, 0), Math.max(0, heat - 6));
            T.due("and again", y.minute(1, 0), Math.max(0, heat - 12));
            T.due("joys", y.share(0), heat + Math.max(0, heat - 6));
        }
    }

    private static int thirstBehindAnHour(int thirst, int plan) {
        TepidByTreaty x = Due.ruled("may 1;joys 1;cools 0;");
        x.aunt(MAID, 0, plan);
        x.set(3, 0, thirst);
        x.hour();
        return x.told(0, 3);
    }

    /** THIRST is 10 less (0 at least); THIRST is 2 more (99 at most). */
    private static void thirstHasBounds() {
        for (int thirst = 0; thirst < 100; thirst++) {
            T.due("no cup, from " + thirst, thirstBehindAnHour(thirst, 0), Math.min(99, thirst + 12));
            T.due("a cup at first, from " + thirst, thirstBehindAnHour(thirst, 1), Math.min(99, Math.max(0, thirst - 10) + 12));
            int late = Math.min(99, Math.max(0, Math.min(99, thirst + 10) - 10) + 2);
            T.due("a cup at last, from " + thirst, thirstBehindAnHour(thirst, 32), late);
        }
    }

    /** Then of all THIRST is 2 more: behind each MINUTE, of those also who had a cup. */
    private static void thirstIsMoreEveryMinute() {
        TepidByTreaty x = Due.ruled("may 1;joys thirst;cools 0;");
        for (int m = 0; m < 5; m++) x.aunt(AUNT, 0, 1 << m);
        for (int m = 0; m < 5; m++) T.due("thirst ahead of a cup in " + m, x.share(m), 10 + 2 * m);
        x.set(3, 0, 97);
        x.set(4, 0, 0b110);
        // 99 in minute 1, then 89 and 2
        T.due("bounded on the way", x.share(0), 99 + 91);
        x.set(3, 0, 96);
        T.due("98 in minute 1, then 88 and 2", x.share(0), 98 + 90);
    }

    // ---- 1: what a text tells

    /** shown: how many others SHOW want; of cools, of no AUNT: how many SHOW want. */
    private static void ofWhomShownIsTold() {
        for (int showing = 0; showing <= 5; showing++) {
            TepidByTreaty x = Due.ruled("may 1;joys shown;cools shown;");
            for (int a = 0; a < 5; a++) {
                x.aunt(AUNT, 0, 1);
                x.set(3, a, a < showing ? 21 : 20);
            }
            T.due("cools by all who show", x.minute(0, 0), Math.max(0, 80 - showing - 30));
            for (int a = 0; a < 5; a++) {
                T.due("others of " + showing + " for " + a, x.share(a), a < showing ? showing - 1 : showing);
            }
        }
    }

    /** cups: how many she had in this hour; minute. */
    private static void cupsAndMinuteAtTheirEnds() {
        for (int k = 0; k < 6; k++) {
            TepidByTreaty x = Due.ruled("may 1;joys cups=" + k + ";cools 0;");
            x.aunt(MAID, 0, 63);
            x.aunt(AUNT, 0, 63);
            T.due("ahead of one cup she had " + k, x.share(1), 1);
            TepidByTreaty y = Due.ruled("may cups<" + k + ";joys 1;cools 0;");
            y.aunt(AUNT, 0, 63);
            T.due("cups below " + k, y.cups(0), k);
            TepidByTreaty z = Due.ruled("may minute=" + k + ";joys 1;cools minute=" + k + ";");
            z.aunt(AUNT, 0, 63);
            T.due("may in minute " + k, z.minute(k, 2), 1);
            T.due("may once", z.cups(0), 1);
            T.due("cools in minute " + k, z.minute(k, 0), 80 - 1 - 6);
            T.due("cools once", z.minute(5, 0), 80 - 1 - 6);
        }
        TepidByTreaty x = Due.ruled("may 1;joys cups=6 or minute=6;cools 0;");
        x.aunt(AUNT, 0, 63);
        T.due("never six", x.share(0), 0);
        x = Due.ruled("may 1;joys cups;cools 0;");
        x.aunt(AUNT, 0, 63);
        T.due("cups of an hour", x.share(0), 15);
        x.hour();
        T.due("and of the next, from none", x.share(0), 15);
    }

    /** joys (-99 .. 99, else the bound). */
    private static void joysHasBounds() {
        String[] told = {"98", "99", "100", "9999", MOST, "-98", "-99", "-100", "-9999", "-" + MOST, MOST + "+1"};
        int[] joy = {98, 99, 99, 99, 99, -98, -99, -99, -99, -99, -99};
        for (int i = 0; i < told.length; i++) {
            T.due("joys " + told[i], joyOf(AUNT, 0, told[i], 80), joy[i]);
            T.due("of a PROUD", joyOf(PROUD, 0, told[i], 80), 2 * joy[i]);
            T.due("of a MEEK", joyOf(MEEK, 9, told[i], 80), joy[i] + 9);
        }
    }

    /** cools (0 .. 40, else the bound). */
    private static void coolsHasBounds() {
        String[] told = {"0", "1", "39", "40", "41", "9999", MOST, "-1", "-40", "-9999", "-" + MOST, MOST + "+1"};
        int[] less = {0, 1, 39, 40, 40, 40, 40, 0, 0, 0, 0, 0};
        for (int i = 0; i < told.length; i++) {
            TepidByTreaty x = Due.ruled("may 1;joys 1;cools " + told[i] + ";");
            T.due("cools " + told[i], x.minute(0, 0), 80 - less[i]);
        }
    }

    private static void holds(String e) {
        TepidByTreaty x = Due.ruled("may 1;joys " + e + ";cools 0;");
        x.aunt(AUNT, 0, 1);
        T.due(e, x.share(0), 1);
    }

    /** An E is an int (32 bits, wrapping). */
    private static void intsWrap() {
        holds("0<" + MOST);
        holds(MOST + "+1<0");
        holds(MOST + "+1=0-" + MOST + "-1");
        holds("0<0-" + MOST + "-2");
        holds(MOST + "*2=-2");
        holds(MOST + "*" + MOST + "=1");
        holds("-(" + MOST + "+1)<0");
        holds("-(" + MOST + "+1)=" + MOST + "+1");
        // where a difference would wrap, < is told all the same
        holds("-2<" + MOST);
        holds("not " + MOST + "<-2");
        holds(MOST + "+1<" + MOST);
        holds(MOST + "+1<1");
        holds("4096*16*4096*16=0");
        holds("4096*8*4096*16<0");
        holds("4096*16*4096*8-1=" + MOST);
        holds("not 4096*16*4096*16");
        holds("(" + MOST + "+1)*-1<0");
    }

    /** she may, if it isn't 0. */
    private static void mayIsAnythingButNothing() {
        String[] told = {"0", "1", "-1", "2", "9999", "-9999", MOST, MOST + "+1", "4096*16*4096*16", "1-1"};
        int[] may = {0, 1, 1, 1, 1, 1, 1, 1, 0, 0};
        for (int i = 0; i < told.length; i++) {
            TepidByTreaty x = Due.ruled("may " + told[i] + ";joys 1;cools 0;");
            x.aunt(AUNT, 0, 4);
            T.due("may " + told[i], x.minute(2, 2), may[i]);
            T.due("may not " + told[i], x.minute(2, 3), 1 - may[i]);
        }
    }

    /** of or, and, not, <, = 1 or 0 (what is not 0 is true): of all pairs round 0. */
    private static void quietOrLoud() {
        List<String> wrong = new ArrayList<>();
        for (int a = -2; a <= 2; a++) {
            for (int b = -2; b <= 2; b++) {
                int[] due = {a != 0 || b != 0 ? 1 : 0, a != 0 && b != 0 ? 1 : 0, a < b ? 1 : 0, a == b ? 1 : 0, a + b, a - b, a * b};
                String[] signs = {" or ", " and ", "<", "=", "+", "-", "*"};
                for (int i = 0; i < signs.length; i++) {
                    if (joyOf(AUNT, 0, a + signs[i] + b, 80) != due[i]) wrong.add(a + signs[i] + b);
                }
            }
            if (joyOf(AUNT, 0, "not " + a, 80) != (a == 0 ? 1 : 0)) wrong.add("not " + a);
            if (joyOf(AUNT, 0, "- " + a, 80) != -a) wrong.add("- " + a);
        }
        T.isTrue("told otherwise: " + wrong, wrong.isEmpty());
    }
}
