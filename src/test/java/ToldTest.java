/** Promises 19 to 25: tells, film, drawn, chance, image, back, count. */
public final class ToldTest {
    private static final Due T = new Due("ToldTest");
    private static final int MAX = Integer.MAX_VALUE, MIN = Integer.MIN_VALUE;
    private static final int AUNT = 0, PROUD = 1, MEEK = 2, SLY = 4, MAID = 5;

    public static void main(String[] args) {
        tellsWhatIsOtherwise();
        tellsKinds();
        tellsNumbers();
        tellsThirsts();
        tellsPlans();
        tellsTexts();
        tellsOfTheFifth();
        tellsRefuses();
        film();
        drawn();
        chance();
        imageAndBack();
        imageOfNobody();
        count();
        T.end();
    }

    private static void tellsWhatIsOtherwise() {
        TepidByTreaty x = new TepidByTreaty();
        Due.row(x, 0, 77, 74, 71, 68, 65, 62);
        T.due("all so", x.tells(0, 0), -1);
        x.cell(0, 5, 61);
        T.due("the last", x.tells(0, 0), 5);
        x.cell(0, 2, 0);
        T.due("the first that is", x.tells(0, 0), 2);
        x.cell(0, 0, -77);
        T.due("the first", x.tells(0, 0), 0);
        Due.row(x, 0, 77, 74);
        T.due("a short one", x.tells(0, 0), -1);
        Due.row(x, 0);
        T.due("an empty one", x.tells(0, 0), -1);
        x.sheet(0, 0, 1);
        x.cell(0, 0, 256 + 77);
        T.due("a byte", x.tells(0, 0), -1);
        x.sheet(0, 1, 1);
        x.cell(0, 0, 256 + 77);
        T.due("a short, not so", x.tells(0, 0), 0);
        x.cell(0, 0, 65536 * 3 + 77);
        T.due("a short", x.tells(0, 0), -1);
        x.sheet(0, 2, 1);
        x.cell(0, 0, 65536 + 77);
        T.due("an int, not so", x.tells(0, 0), 0);
    }

    private static void tellsKinds() {
        TepidByTreaty x = new TepidByTreaty();
        x.aunt(MAID, 0, 1);
        x.aunt(AUNT, 0, 1);
        // each for the second: the MAID takes nothing
        int[][] due = {{71, 0b001011}, {74, 0b000100}, {73, 0b010000}, {77, 0b100000}, {72, 0}};
        for (int[] d : due) {
            Due.row(x, 0, d[0]);
            T.due("kinds by " + d[0], x.tells(0, 11), d[1]);
        }
        T.due("kind stays", x.told(1, 5), 0);
        x.set(2, 1, 1);
        Due.row(x, 0, 71);
        T.due("proud with 1 takes more", x.tells(0, 11), 1);
        Due.row(x, 0, 70);
        T.due("she and the lame", x.tells(0, 11), 0b001010);
        Due.row(x, 0, 71);
        T.due("of the first, with an aunt", x.tells(0, 10), 0b100000);
    }

    private static void tellsNumbers() {
        TepidByTreaty x = new TepidByTreaty();
        x.aunt(PROUD, 2, 1);
        x.aunt(AUNT, 2, 0);
        Due.row(x, 1, 69);
        T.due("number 2", x.tells(1, 20), 4);
        T.due("of the other, all", x.tells(1, 21), 1023);
        Due.row(x, 1, 62);
        T.due("number 9", x.tells(1, 20), 512);
        Due.row(x, 1, 61);
        T.due("none", x.tells(1, 20), 0);
        Due.row(x, 1, 71);
        T.due("number 0", x.tells(1, 20), 1);
        T.due("number stays", x.told(0, 2), 2);
    }

    private static void tellsThirsts() {
        TepidByTreaty x = Due.ruled("may thirst<30; joys 1; cools 3;");
        x.aunt(MAID, 0, 1);
        x.aunt(AUNT, 0, 1);
        Due.row(x, 2, 71);
        T.due("how many", x.tells(2, 31), 30);
        T.due("least", x.tells(2, 41), 0);
        Due.row(x, 2, 77);
        T.due("how many", x.tells(2, 31), 70);
        T.due("least", x.tells(2, 41), 30);
        Due.row(x, 2, 78);
        T.due("none", x.tells(2, 31), 0);
        T.due("no least", x.tells(2, 41), -1);
        Due.row(x, 2, 71);
        T.due("of the maid, all", x.tells(2, 30), 100);
        T.due("thirst stays", x.told(1, 3), 10);
        x = Due.ruled("may thirst=99; joys 1; cools 0;");
        x.aunt(AUNT, 0, 1);
        Due.row(x, 2, 74);
        T.due("99 is one", x.tells(2, 30), 1);
        T.due("and the least", x.tells(2, 40), 99);
        x = Due.ruled("may thirst=100; joys 1; cools 0;");
        x.aunt(AUNT, 0, 1);
        T.due("100 is none", x.told(0, 3), 10);
        Due.row(x, 2, 74);
        T.due("none", x.tells(2, 30), 0);
        T.due("no least", x.tells(2, 40), -1);
    }

    private static void tellsPlans() {
        TepidByTreaty x = new TepidByTreaty();
        x.aunt(AUNT, 0, 0);
        int[][] rows = {{71}, {71, 68}, {77, 68}, {71, 62}, {77, 74, 71, 68, 65, 62}, {71, 62, 53, 44, 35, 26}, {70}, {}};
        int[][] due = {{32, 1}, {16, 1}, {16, 2}, {16, 3}, {1, 0}, {1, 63}, {0, -1}, {64, 0}};
        for (int i = 0; i < rows.length; i++) {
            Due.row(x, 3, rows[i]);
            T.due("plans, row " + i, x.tells(3, 50), due[i][0]);
            T.due("least, row " + i, x.tells(3, 60), due[i][1]);
        }
        T.due("plan stays", x.told(0, 4), 0);
    }

    private static void tellsTexts() {
        TepidByTreaty x = new TepidByTreaty();
        Due.text(x, "may 0; joys 1; cools 3;");
        Due.text(x, "may 1; joys 1; cools 4;");
        Due.text(x, "may 1; joys 1; cools 3;");
        x.aunt(AUNT, 0, 1);
        Due.row(x, 0, 71);
        T.due("texts", x.tells(0, 1), 0b1001);
        Due.row(x, 0, 77);
        T.due("texts", x.tells(0, 1), 0b0010);
        Due.row(x, 0, 70);
        T.due("texts", x.tells(0, 1), 0b0100);
        Due.row(x, 0, 1);
        T.due("texts", x.tells(0, 1), 0);
        Due.row(x, 0);
        T.due("texts", x.tells(0, 1), 0b1111);
        Due.text(x, "may 1; joys 1; cools 5;");
        Due.text(x, "may 1; joys 1; cools 6;");
        Due.row(x, 0, 68);
        T.due("the last", x.tells(0, 1), 0b100000);
        T.due("the rule stays", x.count(4), 0);
        x.force(5);
        Due.row(x, 0, 71);
        T.due("whichever rules", x.tells(0, 1), 0b1001);
    }

    private static void tellsOfTheFifth() {
        TepidByTreaty x = Due.ruled("may thirst<30; joys 1; cools 3;");
        for (int a = 0; a < 5; a++) {
            x.aunt(PROUD, a, 0);
        }
        x.set(4, 4, 2);
        Due.row(x, 0, 77, 64);
        T.due("kinds", x.tells(0, 14), 0b001010);
        T.due("numbers", x.tells(0, 24), 16);
        T.due("thirsts: in minute 1 they are 2 more", x.tells(0, 34), 28);
        T.due("least", x.tells(0, 44), 0);
        T.due("plans", x.tells(0, 54), 16);
        T.due("least", x.tells(0, 64), 2);
    }

    private static void tellsRefuses() {
        TepidByTreaty x = new TepidByTreaty();
        Due.row(x, 0, 77);
        int[] noAunts = {10, 20, 30, 40, 50, 60, 15, 69};
        for (int what : noAunts) {
            T.due("nobody, tells(0, " + what + ")", x.tells(0, what), -2);
        }
        x.aunt(AUNT, 0, 0);
        x.aunt(AUNT, 0, 0);
        int[] bad = {-1, 2, 9, 12, 19, 22, 29, 32, 39, 42, 52, 62, 69, 70, 71, 80, 100, -10, MAX, MIN};
        for (int what : bad) {
            T.due("tells(0, " + what + ")", x.tells(0, what), -2);
            T.due("bad ahead of missing, " + what, x.tells(1, what), -2);
        }
        T.due("sheet -1", x.tells(-1, 0), -2);
        T.due("sheet 4", x.tells(4, 0), -2);
        T.due("sheet MAX", x.tells(MAX, 0), -2);
        T.due("sheet MIN", x.tells(MIN, 0), -2);
        T.due("missing", x.tells(1, 0), -11);
        T.due("missing", x.tells(1, 61), -11);
        x.sheet(1, 0, 7);
        T.due("more than 6", x.tells(1, 0), -2);
        T.due("more than 6", x.tells(1, 61), -2);
        x.sheet(1, 0, 6);
        T.due("6", x.tells(1, 0), 0);
        T.due("tells(0, 61)", x.tells(0, 61), 0);
    }

    private static void film() {
        TepidByTreaty x = new TepidByTreaty();
        T.due("film of a missing one", x.film(2, 6), 6);
        T.due("is so", x.tells(2, 0), -1);
        T.due("of 6", x.cell(2, 5, 62), 1);
        T.due("not of 7", x.cell(2, 6, 0), -12);
        T.due("is of bytes", x.aunts(2, 1, 0, 0), -13);
        T.due("not of ints", x.aunts(2, 2, 0, 0), -13);
        x.sheet(1, 2, 40);
        T.due("film of a row", x.film(1, 0), 0);
        T.due("none is left", x.cell(1, 0, 0), -12);
        T.due("bytes", x.aunts(1, 0, 0, 0), 0);
        T.due("of 3", x.film(1, 3), 3);
        T.due("so", x.tells(1, 0), -1);
        T.due("of 3", x.cell(1, 3, 0), -12);
        x.set(0, 0, 8);
        x.film(3, 6);
        // 5, 2, 0, 0, 0, 0: a maid with 2, an aunt with 0
        T.due("read as aunts", x.aunts(3, 0, 0, 2), 2);
        T.due("kind", x.told(0, 5), 5);
        T.due("number", x.told(0, 2), 2);
        T.due("kind", x.told(1, 5), 0);
        int[][] bad = {{-1, 0}, {4, 0}, {0, -1}, {0, 7}, {MAX, 1}, {MIN, 1}, {0, MAX}, {0, MIN}};
        for (int[] b : bad) {
            T.due("film(" + b[0] + ", " + b[1] + ")", x.film(b[0], b[1]), -2);
        }
        T.due("still missing", x.cell(0, 0, 0), -11);
    }

    private static int drawnThirst(int seed, int k) {
        int z = seed;
        for (int i = 0; i <= k; i++) {
            z = z * 1103515245 + 12345;
        }
        return (z >>> 9) % 50;
    }

    private static void drawn() {
        TepidByTreaty x = Due.ruled("may 1; joys thirst; cools 0;");
        T.due("drawn of nobody", x.drawn(1), 0);
        x.aunt(AUNT, 0, 1);
        // 1 * 1103515245 + 12345 = 1103527590, by 512 2155327, of which 27 over 50
        T.due("drawn(1)", x.drawn(1), 27);
        // 0 * 1103515245 + 12345, by 512 24
        T.due("drawn(0)", x.drawn(0), 24);
        x.aunt(AUNT, 0, 1);
        x.aunt(AUNT, 0, 1);
        int[] seeds = {0, 1, 5, -1, -77, MAX, MIN, 123456789};
        for (int seed : seeds) {
            int want = drawnThirst(seed, 0) + drawnThirst(seed, 1) + drawnThirst(seed, 2);
            T.due("drawn(" + seed + ")", x.drawn(seed), want);
        }
        T.due("thirst stays", x.told(0, 3), 10);
    }

    private static void chance() {
        TepidByTreaty x = Due.ruled("may thirst<20; joys 1; cools 0;");
        T.due("nobody breaks", x.chance(9, 20, 0), 1);
        T.due("of one", x.chance(9, 20, 1), 1);
        x.aunt(AUNT, 0, 1);
        x.aunt(AUNT, 0, 2);
        int[] seeds = {0, 1, 7, -3, MAX - 4, MIN, 100, 200, 300};
        for (int seed : seeds) {
            for (int m = 1; m <= 20; m++) {
                int quiet = 0;
                for (int i = 0; i < m; i++) {
                    if (drawnThirst(seed + i, 0) < 20 && drawnThirst(seed + i, 1) + 2 < 20) {
                        quiet++;
                    }
                }
                int by = m;
                while (quiet % by != 0 || m % by != 0) {
                    by--;
                }
                T.due("chance(" + seed + ", " + m + ", 0)", x.chance(seed, m, 0), quiet / by);
                T.due("chance(" + seed + ", " + m + ", 1)", x.chance(seed, m, 1), m / by);
            }
            x.set(3, 0, seed & 63);
        }
        long no = -4611686018427387904L;
        int[][] bad = {{0, 0}, {21, 0}, {-1, 0}, {1, -1}, {1, 2}, {MAX, 0}, {MIN, 0}, {1, MAX}, {1, MIN}};
        for (int[] b : bad) {
            T.due("chance(0, " + b[0] + ", " + b[1] + ")", x.chance(0, b[0], b[1]), no);
        }
    }

    private static void imageAndBack() {
        TepidByTreaty x = new TepidByTreaty();
        Due.text(x, "may 1; joys heat; cools 1;");
        x.aunt(AUNT, 3, 1);
        x.aunt(SLY, 4, 2);
        x.hour();
        x.set(3, 1, 44);
        T.due("back without one", x.back(), -3);
        int heat = x.told(0, 0);
        int had = x.told(0, 6);
        T.due("image", x.image(), 2);
        x.set(0, 0, 99);
        x.set(1, 0, 500);
        x.set(2, 0, 9);
        x.set(3, 1, 1);
        x.set(4, 1, 63);
        x.force(1);
        x.aunt(MAID, 0, 0);
        x.hour();
        x.film(0, 2);
        Due.feed(x, "may");
        Due.text(x, "@");
        Due.text(x, "may 0; joys 1; cools 1;");
        Due.feed(x, "joy");
        T.due("back", x.back(), 2);
        T.due("aunts", x.count(0), 2);
        T.due("heat", x.told(0, 0), heat);
        T.due("hour", x.told(0, 1), 1);
        T.due("number", x.told(0, 2), 3);
        T.due("thirst", x.told(1, 3), 44);
        T.due("plan", x.told(1, 4), 2);
        T.due("had", x.told(0, 6), had);
        T.due("she is gone", x.told(2, 5), -1000000);
        T.due("the rule", x.count(4), 0);
        T.due("texts stay", x.count(2), 3);
        T.due("the tape stays", x.count(3), 3);
        T.due("a sheet stays", x.cell(0, 1, 0), 1);
        x.aunt(PROUD, 7, 7);
        T.due("another comes", x.told(2, 5), 1);
        T.due("thirst 10", x.told(2, 3), 10);
        T.due("had nothing", x.told(2, 6), 0);
        T.due("back again", x.back(), 2);
        x.set(0, 0, 12);
        x.aunt(PROUD, 7, 7);
        T.due("another image", x.image(), 3);
        x.set(0, 0, 13);
        T.due("back to it", x.back(), 3);
        T.due("heat", x.told(0, 0), 12);
        T.due("she stays", x.told(2, 2), 7);
    }

    private static void imageOfNobody() {
        TepidByTreaty x = new TepidByTreaty();
        T.due("image", x.image(), 0);
        x.aunt(AUNT, 0, 0);
        T.due("back", x.back(), 0);
        T.due("nobody", x.count(0), 0);
        T.due("first again", x.aunt(MEEK, 0, 0), 0);
        T.due("kind", x.told(0, 5), 2);
    }

    private static void count() {
        TepidByTreaty x = new TepidByTreaty();
        x.aunt(AUNT, 0, 0);
        x.aunt(AUNT, 0, 0);
        x.set(3, 1, 33);
        x.set(1, 0, 77);
        Due.text(x, "may 1; joys 1; cools 1;");
        Due.text(x, "may 1; joys 1; cools 1;");
        x.force(2);
        x.feed(1);
        int[] due = {2, 77, 3, 1, 2, 43};
        for (int what = 0; what < 6; what++) {
            T.due("count(" + what + ")", x.count(what), due[what]);
        }
        int[] bad = {-1, 6, MAX, MIN};
        for (int b : bad) {
            T.due("count(" + b + ")", x.count(b), -2);
        }
    }
}
