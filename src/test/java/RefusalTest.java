import java.util.ArrayList;
import java.util.List;

/**
 * Every refusal of promises 2 to 30: its own answer, the first that the call's words name where several would do, and
 * nothing changed behind it. Each is asked of an object of its own, which is then held against a twin that was never
 * asked.
 */
public final class RefusalTest {
    private static final Due T = new Due("RefusalTest");
    private static final int MAX = Integer.MAX_VALUE, MIN = Integer.MIN_VALUE;
    private static final int BAD = -2, STATE = -3, FULL = -4, MISSING = -11, OUTSIDE = -12, UNLIKE = -13, BELOW = -14;
    private static final int NONE_SUCH = -1000000;
    private static final long NO = -4611686018427387904L;

    /** An object is promised for 512 calls. */
    private static final int MOST_CALLS = 512;

    /** What was done with an object ahead of the refusal. */
    private enum Laid { NEW, SOME, FULL }

    public static void main(String[] args) {
        laidAsTold();
        potOfNobody();
        potOfTwo();
        potOfFive();
        texts();
        hourOfNobody();
        hourOfTwo();
        hourOfFive();
        bestOfNobody();
        bestOfTwo();
        bestOfFive();
        tellsWhatIsNone();
        tellsInOrder();
        filmAndChance();
        imageAndCount();
        sheets();
        cells();
        copies();
        auntsOfSheets();
        auntsOfSheetsInOrder();
        taken();
        T.end();
    }

    // ---- how a refusal is held to be one

    /** An object and how many calls it has had. */
    private static final class Pot {
        private final TepidByTreaty x = new TepidByTreaty();
        private int calls;

        long ask(String name, int... given) {
            calls++;
            return Due.ask(x, name, given);
        }

        void text(String letters) {
            feed(letters);
            ask("text");
        }

        void feed(String letters) {
            for (int i = 0; i < letters.length(); i++) ask("feed", letters.charAt(i));
        }

        /** A row of this sort with numbers that may be read as aunts. */
        void row(int sheet, int sort, int n) {
            ask("sheet", sheet, sort, n);
            for (int i = 0; i < n && i < 15; i++) {
                ask("cell", sheet, i, i % 3 == 0 ? i / 3 + 1 : i % 3 == 1 ? i / 3 + 2 : i + 30);
            }
        }
    }

    private static Pot laid(Laid how) {
        Pot pot = new Pot();
        if (how == Laid.SOME) {
            pot.text("may 1;joys heat;cools 1;");
            pot.text("may 0;joys heat;cools 2;");
            pot.ask("aunt", 1, 4, 21);
            pot.ask("image");
            pot.ask("aunt", 4, 3, 42);
            pot.ask("set", 3, 1, 50);
            pot.ask("force", 1);
            pot.ask("hour");
            pot.row(0, 0, 15);
            pot.row(1, 1, 7);
            pot.row(2, 2, 6);
            pot.feed("may 1;joys 3;cools 7;");
        } else if (how == Laid.FULL) {
            pot.ask("image");
            for (int k = 1; k <= 5; k++) {
                pot.text("may 1;joys 9;cools " + k + ";");
                pot.ask("aunt", 5 - k, k, 9 * k);
            }
            pot.ask("force", 3);
            pot.ask("hour");
            pot.ask("set", 1, 0, 999);
            pot.row(0, 0, 40);
            pot.row(1, 1, 0);
            pot.row(2, 2, 3);
            pot.feed(" ".repeat(160));
        }
        return pot;
    }

    /** All that can be seen of an object, by calls in an order of which each may undo what was seen ahead. */
    private static List<String> seen(Pot pot) {
        List<String> seen = new ArrayList<>();
        seesPotAndAunts(pot, seen, 5);
        for (int m = 0; m < 6; m += 5) {
            for (int what = 0; what < 4; what++) see(pot, seen, "minute", m, what);
        }
        int[] sizes = {1, 4, 7, 8, 16, 40, 41};
        for (int sheet = 0; sheet < 4; sheet++) {
            for (int sort = 0; sort < 3; sort++) see(pot, seen, "aunts", sheet, sort, 0, 0);
            for (int n : sizes) see(pot, seen, "copy", sheet, n, sheet, n, 0);
        }
        see(pot, seen, "text");
        for (int text = 0; text < 6; text++) {
            see(pot, seen, "force", text);
            see(pot, seen, "minute", 0, 0);
        }
        see(pot, seen, "back");
        seesPotAndAunts(pot, seen, 2);
        for (int sheet = 0; sheet < 4; sheet++) {
            for (int sort = 0; sort < 3; sort++) see(pot, seen, "aunts", sheet, sort, 0, 5);
            for (int of = 0; of < 4; of++) {
                see(pot, seen, "told", of, 2);
                see(pot, seen, "told", of, 4);
                see(pot, seen, "told", of, 5);
            }
            see(pot, seen, "back");
        }
        return seen;
    }

    private static void seesPotAndAunts(Pot pot, List<String> seen, int aunts) {
        for (int what = 0; what < 6; what++) see(pot, seen, "count", what);
        see(pot, seen, "told", 0, 0);
        for (int of = 0; of < aunts; of++) {
            for (int what = 2; what <= 6; what++) see(pot, seen, "told", of, what);
        }
    }

    private static void see(Pot pot, List<String> seen, String name, int... given) {
        seen.add(Due.named(name, given) + " " + pot.ask(name, given));
    }

    private static void refused(Laid how, long want, String name, int... given) {
        String call = how + ": " + Due.named(name, given);
        Pot pot = laid(how);
        T.due(call, pot.ask(name, given), want);
        List<String> behind = seen(pot);
        List<String> twin = seen(laid(how));
        for (int i = 0; i < twin.size(); i++) {
            if (!behind.get(i).equals(twin.get(i))) {
                T.isTrue("nothing changed behind " + call + ", but " + behind.get(i) + " was " + twin.get(i), false);
                break;
            }
        }
        T.isTrue(pot.calls + " calls are promised", pot.calls <= MOST_CALLS);
    }

    private static void each(Laid how, long want, String name, int[][] given) {
        for (int[] g : given) refused(how, want, name, g);
    }

    private static void laidAsTold() {
        int[][] counts = {{0, 0, 1, 0, 0}, {2, 1, 3, 21, 1}, {5, 999, 6, 160, 3}};
        for (Laid how : Laid.values()) {
            Pot pot = laid(how);
            for (int what = 0; what < 5; what++) {
                T.due(how + ": count(" + what + ")", pot.ask("count", what), counts[how.ordinal()][what]);
            }
            T.due(how + ": back", pot.ask("back"), how == Laid.NEW ? STATE : how == Laid.SOME ? 1 : 0);
        }
    }

    // ---- promises 2 to 4

    private static void potOfNobody() {
        each(Laid.NEW, BAD, "set", new int[][] {
            {2, 0, 0}, {3, 0, 0}, {4, 0, 0}, {2, -1, 0}, {3, -1, 0}, {4, -1, 0}, {0, 0, -1}, {0, 0, 100}, {1, 0, -1}, {1, 0, 1000}});
        each(Laid.NEW, NONE_SUCH, "told", new int[][] {{0, 2}, {0, 3}, {0, 4}, {0, 5}, {0, 6}, {0, 7}, {0, 8}, {0, -1}, {-1, 2}});
    }

    private static void potOfTwo() {
        each(Laid.SOME, BAD, "set", new int[][] {
            {-1, 0, 0}, {5, 0, 0}, {6, 0, 0}, {7, 0, 0}, {8, 0, 0}, {MIN, 0, 0}, {MAX, 0, 0},
            {0, 0, -1}, {0, 0, 100}, {0, 0, MIN}, {0, 0, MAX}, {0, -1, 100}, {0, 5, -1},
            {1, 0, -1}, {1, 0, 1000}, {1, 0, MIN}, {1, 0, MAX},
            {2, 0, -1}, {2, 0, 10}, {2, 1, MIN}, {2, 1, MAX}, {2, -1, 0}, {2, 2, 0}, {2, MIN, 0}, {2, MAX, 0},
            {3, 0, -1}, {3, 0, 100}, {3, 1, MIN}, {3, 1, MAX}, {3, -1, 0}, {3, 2, 0}, {3, MIN, 0}, {3, MAX, 0},
            {4, 0, -1}, {4, 0, 64}, {4, 1, MIN}, {4, 1, MAX}, {4, -1, 0}, {4, 2, 0}, {4, MIN, 0}, {4, MAX, 0}});
        each(Laid.SOME, BAD, "aunt", new int[][] {
            {-1, 0, 0}, {6, 0, 0}, {MIN, 0, 0}, {MAX, 0, 0}, {0, -1, 0}, {0, 10, 0}, {0, MIN, 0}, {0, MAX, 0},
            {0, 0, -1}, {0, 0, 64}, {0, 0, MIN}, {0, 0, MAX}});
        each(Laid.SOME, NONE_SUCH, "told", new int[][] {
            {0, -1}, {0, 8}, {0, MIN}, {0, MAX}, {-1, 2}, {-1, 3}, {-1, 4}, {-1, 5}, {-1, 6}, {-1, 7},
            {2, 2}, {2, 3}, {2, 4}, {2, 5}, {2, 6}, {2, 7}, {MIN, 5}, {MAX, 5}, {-1, 8}, {2, -1}});
    }

    private static void potOfFive() {
        each(Laid.FULL, FULL, "aunt", new int[][] {{0, 0, 0}, {5, 9, 63}});
        each(Laid.FULL, BAD, "aunt", new int[][] {{-1, 0, 0}, {6, 0, 0}, {0, -1, 0}, {0, 10, 0}, {0, 0, -1}, {0, 0, 64}});
        each(Laid.FULL, BAD, "set", new int[][] {{2, 5, 0}, {3, 5, 0}, {4, 5, 0}, {2, 4, 10}, {3, 4, 100}, {4, 4, 64}, {1, 0, 1000}});
        each(Laid.FULL, NONE_SUCH, "told", new int[][] {{5, 2}, {5, 3}, {5, 4}, {5, 5}, {5, 6}, {5, 7}, {4, 8}});
    }

    // ---- promises 5 to 7

    private static void texts() {
        each(Laid.NEW, BAD, "feed", new int[][] {{-1}, {256}, {MIN}, {MAX}});
        each(Laid.SOME, BAD, "feed", new int[][] {{-1}, {256}, {MIN}, {MAX}});
        each(Laid.FULL, FULL, "feed", new int[][] {{0}, {32}, {255}});
        each(Laid.FULL, BAD, "feed", new int[][] {{-1}, {256}});
        // blanks alone are a FAULT, but there is no room for another text, and that comes ahead
        refused(Laid.FULL, FULL, "text");
        each(Laid.NEW, BAD, "force", new int[][] {{-1}, {1}, {6}, {MIN}, {MAX}});
        each(Laid.SOME, BAD, "force", new int[][] {{-1}, {3}, {5}, {MIN}, {MAX}});
        each(Laid.FULL, BAD, "force", new int[][] {{-1}, {6}, {7}});
    }

    // ---- promises 8 to 11

    private static void hourOfNobody() {
        each(Laid.NEW, BAD, "minute", new int[][] {{-1, 0}, {6, 0}, {0, -1}, {0, 4}});
        each(Laid.NEW, NONE_SUCH, "share", new int[][] {{0}, {-2}});
        each(Laid.NEW, BAD, "cups", new int[][] {{0}, {-1}});
    }

    private static void hourOfTwo() {
        each(Laid.SOME, BAD, "minute", new int[][] {{-1, 0}, {6, 0}, {MIN, 0}, {MAX, 0}, {5, -1}, {5, 4}, {5, MIN}, {5, MAX}, {6, 4}});
        each(Laid.SOME, NONE_SUCH, "share", new int[][] {{-2}, {2}, {MIN}, {MAX}});
        each(Laid.SOME, BAD, "cups", new int[][] {{-1}, {2}, {MIN}, {MAX}});
    }

    private static void hourOfFive() {
        refused(Laid.FULL, NONE_SUCH, "hour");
        each(Laid.FULL, NONE_SUCH, "share", new int[][] {{-2}, {5}});
        each(Laid.FULL, BAD, "cups", new int[][] {{-1}, {5}});
    }

    // ---- promises 12 to 18

    private static void bestOfNobody() {
        each(Laid.NEW, NONE_SUCH, "best", new int[][] {{0, 0}, {0, 1}, {-1, 0}});
        each(Laid.NEW, NONE_SUCH, "together", new int[][] {{0, 1, 0}, {0, 0, 0}});
        each(Laid.NEW, NONE_SUCH, "greediest", new int[][] {{-1}, {2}});
        each(Laid.NEW, BAD, "hotter", new int[][] {{-10000}, {10000}});
        each(Laid.NEW, BAD, "breaks", new int[][] {{-1}, {2}});
    }

    private static void bestOfTwo() {
        each(Laid.SOME, NONE_SUCH, "best", new int[][] {
            {-1, 0}, {2, 0}, {MIN, 1}, {MAX, 1}, {0, -1}, {0, 2}, {1, MIN}, {1, MAX}, {2, 2}});
        each(Laid.SOME, NONE_SUCH, "greediest", new int[][] {{-1}, {2}, {MIN}, {MAX}});
        each(Laid.SOME, NONE_SUCH, "together", new int[][] {
            {-1, 0, 0}, {2, 0, 0}, {0, -1, 0}, {0, 2, 0}, {0, 0, 0}, {1, 1, 0}, {2, 2, 0}, {-1, -1, 1}, {0, 1, -1}, {0, 1, 2},
            {MIN, 0, 0}, {MAX, 0, 0}, {0, MIN, 0}, {0, MAX, 0}, {1, 0, MIN}, {1, 0, MAX}, {1, 1, 2}});
        each(Laid.SOME, BAD, "hotter", new int[][] {{-10000}, {10000}, {MIN}, {MAX}});
        each(Laid.SOME, BAD, "breaks", new int[][] {{-1}, {2}, {MIN}, {MAX}});
    }

    private static void bestOfFive() {
        each(Laid.FULL, NONE_SUCH, "best", new int[][] {{5, 0}, {5, 1}, {4, 2}, {4, -1}});
        each(Laid.FULL, NONE_SUCH, "together", new int[][] {{4, 5, 0}, {5, 4, 1}, {4, 4, 0}, {3, 4, 2}});
    }

    // ---- promises 19 to 25

    private static void tellsWhatIsNone() {
        int[] never = {-1, 2, 9, 15, 19, 25, 29, 35, 39, 45, 49, 55, 59, 65, 69, 70, 71, 80, 100, -10, MIN, MAX};
        for (int what : never) {
            refused(Laid.SOME, BAD, "tells", 2, what);
            refused(Laid.FULL, BAD, "tells", 2, what);
        }
        for (int tens = 10; tens <= 60; tens += 10) {
            refused(Laid.SOME, BAD, "tells", 2, tens + 2);
            refused(Laid.NEW, BAD, "tells", 0, tens);
        }
        each(Laid.SOME, BAD, "tells", new int[][] {{-1, 0}, {4, 0}, {MIN, 0}, {MAX, 0}, {-1, 10}, {4, 61}});
    }

    private static void tellsInOrder() {
        // sheet 3 is missing, sheets 0 and 1 tell more than 6
        each(Laid.SOME, BAD, "tells", new int[][] {{3, 2}, {3, 12}, {3, 70}, {3, -1}});
        each(Laid.SOME, MISSING, "tells", new int[][] {{3, 0}, {3, 1}, {3, 10}, {3, 21}, {3, 30}, {3, 41}, {3, 50}, {3, 61}});
        each(Laid.SOME, BAD, "tells", new int[][] {{0, 0}, {1, 0}, {1, 1}, {1, 10}, {1, 21}, {1, 30}, {1, 41}, {1, 50}, {1, 61}});
        each(Laid.FULL, BAD, "tells", new int[][] {{0, 0}, {0, 64}});
        each(Laid.NEW, MISSING, "tells", new int[][] {{0, 0}, {1, 1}, {2, 0}, {3, 1}});
    }

    private static void filmAndChance() {
        int[][] noFilm = {{-1, 0}, {4, 0}, {MIN, 3}, {MAX, 3}, {0, -1}, {0, 7}, {0, MIN}, {0, MAX}, {3, -1}, {3, 7}, {4, 7}};
        each(Laid.SOME, BAD, "film", noFilm);
        each(Laid.NEW, BAD, "film", noFilm);
        each(Laid.SOME, NO, "chance", new int[][] {
            {0, 0, 0}, {0, 21, 0}, {0, -1, 1}, {0, MIN, 0}, {0, MAX, 0}, {0, 1, -1}, {0, 20, 2}, {0, 1, MIN}, {0, 1, MAX}, {0, 0, 2}});
        each(Laid.NEW, NO, "chance", new int[][] {{0, 0, 0}, {0, 21, 1}, {0, 1, 2}});
    }

    private static void imageAndCount() {
        refused(Laid.NEW, STATE, "back");
        each(Laid.NEW, BAD, "count", new int[][] {{-1}, {6}});
        each(Laid.SOME, BAD, "count", new int[][] {{-1}, {6}, {MIN}, {MAX}});
    }

    // ---- promises 26 to 30

    private static void sheets() {
        int[][] bad = {
            {-1, 0, 1}, {4, 0, 1}, {MIN, 0, 1}, {MAX, 0, 1}, {-1, -1, 0}, {4, -1, 0}, {0, -2, 1}, {0, 3, 1}, {0, MIN, 1},
            {0, MAX, 1}, {0, -2, 0}, {0, 0, 41}, {1, 1, 41}, {2, 2, 41}, {3, 0, 41}, {0, 0, MAX},
            {4, 0, -1}, {0, 3, -1}, {0, -2, -1}};
        each(Laid.SOME, BAD, "sheet", bad);
        each(Laid.NEW, BAD, "sheet", bad);
        int[][] below = {{0, 0, -1}, {1, 1, -1}, {2, 2, -1}, {3, 0, -1}, {0, 0, MIN}, {0, 1, -40}};
        each(Laid.SOME, BELOW, "sheet", below);
        each(Laid.NEW, BELOW, "sheet", below);
    }

    private static void cells() {
        each(Laid.SOME, BAD, "cell", new int[][] {{-1, 0, 1}, {4, 0, 1}, {MIN, 0, 1}, {MAX, 0, 1}, {4, -1, 1}});
        each(Laid.SOME, MISSING, "cell", new int[][] {{3, 0, 1}, {3, -1, 1}, {3, MAX, 1}, {3, 40, 1}});
        each(Laid.SOME, OUTSIDE, "cell", new int[][] {
            {0, -1, 1}, {0, 15, 1}, {0, 40, 1}, {1, 7, 1}, {2, 6, 1}, {2, -1, 1}, {0, MIN, 1}, {0, MAX, 1}});
        each(Laid.FULL, OUTSIDE, "cell", new int[][] {{0, 40, 1}, {0, -1, 1}, {1, 0, 1}, {1, -1, 1}, {2, 3, 1}});
        each(Laid.NEW, MISSING, "cell", new int[][] {{0, 0, 1}, {1, 0, 1}, {2, 0, 1}, {3, 0, 1}});
    }

    private static void copies() {
        each(Laid.SOME, BAD, "copy", new int[][] {
            {-1, 0, 0, 0, 1}, {4, 0, 0, 0, 1}, {0, 0, -1, 0, 1}, {0, 0, 4, 0, 1}, {MIN, 0, 0, 0, 1}, {0, 0, MAX, 0, 1},
            {4, 0, 3, 0, 1}, {3, 0, 4, 0, 1}, {-1, -1, 0, 0, 1}, {0, 0, 4, 0, -1}});
        each(Laid.SOME, MISSING, "copy", new int[][] {
            {3, 0, 0, 0, 1}, {0, 0, 3, 0, 1}, {3, 0, 3, 0, 1}, {3, -1, 0, 0, 1}, {0, 0, 3, 0, -1}, {3, 0, 1, 99, 0}});
        each(Laid.SOME, UNLIKE, "copy", new int[][] {
            {0, 0, 1, 0, 1}, {1, 0, 0, 0, 1}, {0, 0, 2, 0, 1}, {2, 0, 0, 0, 1}, {1, 0, 2, 0, 1}, {2, 0, 1, 0, 1},
            {0, -1, 1, 0, 1}, {0, 0, 1, 7, 1}, {0, 0, 1, 0, -1}, {0, 0, 1, 0, 0}});
        each(Laid.SOME, OUTSIDE, "copy", new int[][] {
            {0, -1, 0, 0, 1}, {0, 0, 0, -1, 1}, {0, 15, 0, 0, 1}, {0, 0, 0, 15, 1}, {0, 0, 0, 1, 15}, {0, 1, 0, 0, 15},
            {0, 0, 0, 0, 16}, {0, 0, 0, 0, -1}, {0, 5, 0, 5, -1}, {0, 0, 0, 0, MIN}, {0, 0, 0, 0, MAX}, {0, MAX, 0, 0, 1},
            {0, 0, 0, MAX, 1}, {0, MIN, 0, 0, 1}, {0, 0, 0, MIN, 1}, {0, MAX, 0, 0, MAX}, {0, 0, 0, MAX, MAX}, {0, 1, 0, 1, MAX},
            {0, 16, 0, 0, 0}, {0, 0, 0, 16, 0}, {0, -1, 0, 0, 0}, {0, 0, 0, -1, 0}});
        each(Laid.FULL, OUTSIDE, "copy", new int[][] {{1, 0, 1, 0, 1}, {0, 0, 0, 1, 40}, {0, 1, 0, 0, 40}, {0, 40, 0, 0, 1}});
        each(Laid.NEW, MISSING, "copy", new int[][] {{0, 0, 0, 0, 0}, {0, 0, 1, 0, 1}});
    }

    private static void auntsOfSheets() {
        each(Laid.SOME, BAD, "aunts", new int[][] {
            {-1, 0, 0, 1}, {4, 0, 0, 1}, {MIN, 0, 0, 1}, {MAX, 0, 0, 1}, {0, -1, 0, 1}, {0, 3, 0, 1}, {0, MIN, 0, 1},
            {0, MAX, 0, 1}, {0, 0, 0, -1}, {0, 0, 0, 6}, {0, 0, 0, MIN}, {0, 0, 0, MAX}});
        each(Laid.SOME, UNLIKE, "aunts", new int[][] {
            {0, 1, 0, 1}, {0, 2, 0, 1}, {1, 0, 0, 1}, {1, 2, 0, 1}, {2, 0, 0, 1}, {2, 1, 0, 1}, {0, 1, 0, 0}});
        each(Laid.SOME, MISSING, "aunts", new int[][] {{3, 0, 0, 1}, {3, 1, 0, 1}, {3, 2, 0, 1}, {3, 0, 0, 0}});
        // no triple stood ahead, so nobody came
        each(Laid.SOME, OUTSIDE, "aunts", new int[][] {
            {0, 0, -1, 1}, {0, 0, 13, 1}, {0, 0, 14, 1}, {0, 0, 15, 1}, {0, 0, MAX, 1}, {0, 0, MAX - 1, 5}, {0, 0, MAX - 2, 5},
            {0, 0, MIN, 1}, {0, 0, -3, 5}, {1, 1, 5, 1}, {2, 2, 4, 1}});
        // nobody else has room, but what stands outside is no less so
        each(Laid.FULL, OUTSIDE, "aunts", new int[][] {{0, 0, 38, 1}, {0, 0, -1, 1}, {1, 1, 0, 1}, {2, 2, 0, 2}, {2, 2, 1, 1}});
    }

    private static void auntsOfSheetsInOrder() {
        each(Laid.SOME, BAD, "aunts", new int[][] {{0, 1, 0, 6}, {3, 0, 0, 6}, {3, 3, 0, 1}, {4, 1, 0, 1}, {0, 0, -1, -1}, {0, -1, -1, 1}});
        each(Laid.SOME, UNLIKE, "aunts", new int[][] {{0, 1, -1, 1}, {1, 2, 7, 1}, {2, 0, MAX, 5}});
        each(Laid.SOME, MISSING, "aunts", new int[][] {{3, 0, -1, 1}, {3, 2, 40, 5}});
    }

    private static void taken() {
        each(Laid.SOME, BAD, "taken", new int[][] {{0, -1}, {0, 6}, {0, MIN}, {0, MAX}, {2, 6}, {-1, -1}});
        each(Laid.SOME, MISSING, "taken", new int[][] {{-1, 0}, {2, 0}, {2, 5}, {MIN, 0}, {MAX, 5}});
        // a PROUD and a SLY
        each(Laid.SOME, UNLIKE, "taken", new int[][] {{0, 2}, {0, 3}, {0, 4}, {0, 5}, {1, 1}, {1, 3}, {1, 5}});
        each(Laid.NEW, MISSING, "taken", new int[][] {{0, 0}, {-1, 5}});
        each(Laid.NEW, BAD, "taken", new int[][] {{0, 6}});
        each(Laid.FULL, MISSING, "taken", new int[][] {{5, 0}, {-1, 0}});
    }
}
