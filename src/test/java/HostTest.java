/** Promises 26 to 30: sheet, cell, copy, aunts, taken. */
public final class HostTest {
    private static final Due T = new Due("HostTest");
    private static final int MAX = Integer.MAX_VALUE, MIN = Integer.MIN_VALUE;

    public static void main(String[] args) {
        sheet();
        cell();
        copy();
        copyRefuses();
        aunts();
        auntsRefuse();
        auntsInPart();
        taken();
        T.end();
    }

    private static void sheet() {
        TepidByTreaty x = new TepidByTreaty();
        int[][] due = {
            {-1, 0, 1, -2}, {4, 0, 1, -2}, {MAX, 0, 1, -2}, {MIN, 0, 1, -2}, {0, -2, 1, -2}, {0, 3, 1, -2}, {0, MAX, 1, -2},
            {0, MIN, 1, -2}, {0, 0, 41, -2}, {0, 2, MAX, -2}, {0, 0, -1, -14}, {0, 1, MIN, -14}, {4, 0, -1, -2},
            {0, 3, -1, -2}};
        for (int[] d : due) {
            T.due("sheet(" + d[0] + ", " + d[1] + ", " + d[2] + ")", x.sheet(d[0], d[1], d[2]), d[3]);
        }
        T.due("still missing", x.cell(0, 0, 0), -11);
        for (int sort = 0; sort < 3; sort++) {
            T.due("sheet(3, " + sort + ", 40)", x.sheet(3, sort, 40), 1);
            T.due("40 of them", x.cell(3, 39, 1), 1);
            T.due("not 41", x.cell(3, 40, 1), -12);
            T.due("of its sort", x.aunts(3, sort, 0, 0), 0);
            T.due("of no other", x.aunts(3, (sort + 1) % 3, 0, 0), -13);
        }
        T.due("an empty one", x.sheet(3, 1, 0), 1);
        T.due("no place", x.cell(3, 0, 1), -12);
        T.due("missing, n 41", x.sheet(3, -1, 41), 1);
        T.due("missing", x.cell(3, 0, 1), -11);
        T.due("missing, n -1", x.sheet(3, -1, -1), 1);
        T.due("missing twice", x.sheet(3, -1, MIN), 1);
        x.sheet(2, 2, 3);
        x.cell(2, 0, 5);
        x.cell(2, 1, 5);
        x.sheet(2, 2, 3);
        x.aunts(2, 2, 0, 1);
        T.due("all 0 anew", x.told(0, 5), 0);
        T.due("all 0 anew", x.told(0, 2), 0);
        x.cell(2, 0, 5);
        T.due("refused, it stays", x.sheet(2, 2, -1), -14);
        x.aunts(2, 2, 0, 1);
        T.due("as it was", x.told(1, 5), 5);
        x.sheet(0, 0, 1);
        T.due("sheets are apart", x.cell(1, 0, 0), -11);
    }

    private static void cell() {
        TepidByTreaty x = new TepidByTreaty();
        x.sheet(0, 2, 3);
        int[][] due = {
            {-1, 0, -2}, {4, 0, -2}, {MAX, 0, -2}, {MIN, 9, -2}, {1, 0, -11}, {1, -1, -11}, {0, -1, -12}, {0, 3, -12},
            {0, MAX, -12}, {0, MIN, -12}, {0, 0, 1}, {0, 2, 1}};
        for (int[] d : due) {
            T.due("cell(" + d[0] + ", " + d[1] + ", 0)", x.cell(d[0], d[1], 0), d[2]);
        }
        int[] whole = {256, 65536, 1};
        for (int sort = 0; sort < 3; sort++) {
            for (int other = 0; other < 3; other++) {
                x.sheet(1, sort, 1);
                T.due("cell", x.cell(1, 0, 77 + whole[other]), 1);
                boolean isSo = sort == 0 ? other != 2 : sort == 1 && other == 1;
                T.due("sort " + sort + " of 77 and " + whole[other], x.tells(1, 0), isSo ? -1 : 0);
                x.cell(1, 0, 77 - whole[other]);
                T.due("sort " + sort + " of 77 less " + whole[other], x.tells(1, 0), isSo ? -1 : 0);
            }
        }
    }

    /** By nobody the heat is 77, 74, 71, 68, 65, 62. */
    private static void copy() {
        TepidByTreaty x = new TepidByTreaty();
        Due.row(x, 0, 9, 77, 74, 71, 68, 65, 62, 9);
        Due.row(x, 1, 0, 0, 0, 0, 0, 0);
        T.due("copy", x.copy(0, 1, 1, 0, 6), 6);
        T.due("is there", x.tells(1, 0), -1);
        Due.row(x, 1, 0, 0, 0, 0, 0, 0);
        T.due("three", x.copy(0, 1, 1, 0, 3), 3);
        T.due("no more", x.tells(1, 0), 3);
        T.due("the others", x.copy(0, 4, 1, 3, 3), 3);
        T.due("is there", x.tells(1, 0), -1);
        T.due("none", x.copy(0, 0, 1, 0, 0), 0);
        T.due("nothing came", x.tells(1, 0), -1);
        Due.row(x, 2, 74, 71, 68, 65, 62, 0);
        T.due("within itself, on", x.copy(2, 0, 2, 1, 5), 5);
        x.cell(2, 0, 77);
        T.due("as they were", x.tells(2, 0), -1);
        Due.row(x, 2, 0, 77, 74, 71, 68, 65);
        T.due("within itself, back", x.copy(2, 1, 2, 0, 5), 5);
        x.cell(2, 5, 62);
        T.due("as they were", x.tells(2, 0), -1);
        x.sheet(0, 1, 2);
        x.sheet(1, 1, 2);
        x.cell(0, 0, -1);
        T.due("shorts", x.copy(0, 0, 1, 1, 1), 1);
        x.cell(1, 0, 77);
        T.due("came behind", x.tells(1, 0), 1);
    }

    private static void copyRefuses() {
        TepidByTreaty x = new TepidByTreaty();
        x.sheet(0, 0, 5);
        x.sheet(1, 0, 4);
        x.sheet(2, 1, 5);
        int[][] due = {
            {-1, 0, 1, 0, 1, -2}, {4, 0, 1, 0, 1, -2}, {0, 0, -1, 0, 1, -2}, {0, 0, 4, 0, 1, -2}, {3, 0, 4, 0, 1, -2},
            {MAX, 0, 0, 0, 1, -2}, {0, 0, MIN, 0, 1, -2}, {3, 0, 0, 0, 1, -11}, {0, 0, 3, 0, 1, -11}, {3, 0, 3, 0, 1, -11},
            {3, -1, 2, -1, -1, -11}, {0, 0, 2, 0, 1, -13}, {0, 9, 2, 9, -1, -13}, {0, 0, 2, 0, 0, -13}, {0, 0, 1, 0, -1, -12},
            {0, -1, 1, 0, 1, -12}, {0, 0, 1, -1, 1, -12}, {0, 0, 1, 0, 5, -12}, {0, 1, 1, 0, 4, 4}, {0, 2, 1, 0, 4, -12},
            {0, 0, 1, 0, 4, 4}, {0, 0, 1, 1, 4, -12}, {0, 5, 1, 4, 0, 0}, {0, 6, 1, 0, 0, -12}, {0, 0, 1, 5, 0, -12},
            {0, MAX, 1, 0, 1, -12}, {0, 1, 1, MAX, MAX, -12}, {0, MAX, 1, 0, MAX, -12}, {0, MIN, 1, 0, 1, -12},
            {0, 0, 1, 0, MIN, -12}, {0, 0, 1, 0, MAX, -12}};
        for (int[] d : due) {
            T.due("copy(" + d[0] + ", " + d[1] + ", " + d[2] + ", " + d[3] + ", " + d[4] + ")",
                x.copy(d[0], d[1], d[2], d[3], d[4]), d[5]);
        }
    }

    private static void aunts() {
        TepidByTreaty x = new TepidByTreaty();
        Due.row(x, 0, 9, 5, 9, 63, 6, 0, 0, 0, 10, 0, 0, 0, 64, 1, 2, 3, -1, 0, 0);
        T.due("two of five", x.aunts(0, 2, 1, 5), 2);
        int[][] told = {{9, 10, 63, 5}, {2, 10, 3, 1}};
        for (int of = 0; of < 2; of++) {
            for (int what = 2; what <= 5; what++) {
                T.due("told(" + of + ", " + what + ")", x.told(of, what), told[of][what - 2]);
            }
        }
        T.due("none of two", x.aunts(0, 2, 4, 2), 0);
        T.due("n of 0", x.aunts(0, 2, 1, 0), 0);
        T.due("n of 1", x.aunts(0, 2, 1, 1), 1);
        T.due("aunts", x.count(0), 3);
        x.sheet(1, 0, 15);
        T.due("two have room, three are left out", x.aunts(1, 0, 0, 5), 2);
        T.due("full", x.aunts(1, 0, 0, 5), 0);
        T.due("aunts", x.count(0), 5);
    }

    private static void auntsRefuse() {
        TepidByTreaty x = new TepidByTreaty();
        x.sheet(0, 1, 3);
        int[][] due = {
            {-1, 1, 0, 1, -2}, {4, 1, 0, 1, -2}, {0, -1, 0, 1, -2}, {0, 3, 0, 1, -2}, {0, 1, 0, -1, -2}, {0, 1, 0, 6, -2},
            {MAX, 1, 0, 1, -2}, {0, MIN, 0, 1, -2}, {0, 1, 0, MAX, -2}, {0, 0, 0, 6, -2}, {1, 1, 0, 6, -2}, {1, -1, 0, 0, -2},
            {0, 0, 0, 1, -13}, {0, 2, 0, 0, -13}, {0, 2, -1, 1, -13}, {1, 0, 0, 1, -11}, {1, 2, -1, 0, -11},
            {0, 1, -1, 1, -12}, {0, 1, 1, 1, -12}, {0, 1, 3, 1, -12}, {0, 1, MAX, 1, -12}, {0, 1, MIN, 1, -12},
            {0, 1, MAX - 1, 5, -12}};
        for (int[] d : due) {
            T.due("aunts(" + d[0] + ", " + d[1] + ", " + d[2] + ", " + d[3] + ")", x.aunts(d[0], d[1], d[2], d[3]), d[4]);
        }
        T.due("nobody came", x.count(0), 0);
        T.due("one", x.aunts(0, 1, 0, 1), 1);
    }

    private static void auntsInPart() {
        TepidByTreaty x = new TepidByTreaty();
        x.sheet(0, 0, 8);
        T.due("the third is not whole", x.aunts(0, 0, 0, 3), -12);
        T.due("what stood ahead came", x.count(0), 2);
        T.due("outside though no more have room", x.aunts(0, 0, 2, 5), -12);
        T.due("four", x.count(0), 4);
        x.aunt(0, 0, 0);
        T.due("full and outside", x.aunts(0, 0, 2, 5), -12);
        T.due("full", x.count(0), 5);
    }

    private static void taken() {
        // by kind: which kinds it may be taken for
        int[] may = {0b000001, 0b000011, 0b000101, 0b001011, 0b010101, 0b100001};
        for (int kind = 0; kind < 6; kind++) {
            TepidByTreaty x = new TepidByTreaty();
            x.aunt(0, 0, 0);
            x.aunt(kind, 7, 0);
            for (int k = 0; k < 6; k++) {
                T.due("kind " + kind + " taken for " + k, x.taken(1, k), (may[kind] >> k & 1) == 1 ? 7 : -13);
            }
        }
        TepidByTreaty x = new TepidByTreaty();
        x.aunt(3, 4, 0);
        int[][] due = {{0, -1, -2}, {0, 6, -2}, {5, 6, -2}, {0, MAX, -2}, {0, MIN, -2}, {1, 0, -11}, {-1, 0, -11}, {MAX, 5, -11}, {MIN, 5, -11}, {0, 0, 4}};
        for (int[] d : due) {
            T.due("taken(" + d[0] + ", " + d[1] + ")", x.taken(d[0], d[1]), d[2]);
        }
    }
}
