/** Promises 1 to 4: a new object, set, aunt, told. */
public final class PotTest {
    private static final Due T = new Due("PotTest");
    private static final int MAX = Integer.MAX_VALUE, MIN = Integer.MIN_VALUE;

    public static void main(String[] args) {
        newObject();
        setOfThePot();
        setOfAnAunt();
        setRefuses();
        auntComes();
        auntRefuses();
        toldAll();
        toldTakes();
        T.end();
    }

    private static void newObject() {
        TepidByTreaty x = new TepidByTreaty();
        T.due("heat", x.told(0, 0), 80);
        T.due("hour", x.told(0, 1), 0);
        for (int what = 2; what <= 7; what++) {
            T.due("nobody, what " + what, x.told(0, what), -1000000);
        }
        T.due("count(0)", x.count(0), 0);
        T.due("count(1)", x.count(1), 0);
        T.due("count(2)", x.count(2), 1);
        T.due("count(3)", x.count(3), 0);
        T.due("count(4)", x.count(4), 0);
        T.due("count(5)", x.count(5), 0);
        T.due("back", x.back(), -3);
        for (int sheet = 0; sheet < 4; sheet++) {
            T.due("missing sheet " + sheet, x.cell(sheet, 0, 0), -11);
        }
        T.due("NONE", TepidByTreaty.NONE, -1);
        T.due("BAD", TepidByTreaty.BAD, -2);
        T.due("STATE", TepidByTreaty.STATE, -3);
        T.due("FULL", TepidByTreaty.FULL, -4);
        T.due("NO", TepidByTreaty.NO, -4611686018427387904L);
    }

    private static void setOfThePot() {
        TepidByTreaty x = new TepidByTreaty();
        T.due("heat 99", x.set(0, -5, 99), 80);
        T.due("heat 0", x.set(0, MAX, 0), 99);
        T.due("heat told", x.told(MIN, 0), 0);
        T.due("hour 999", x.set(1, MIN, 999), 0);
        T.due("hour 0", x.set(1, 5, 0), 999);
        T.due("hour told", x.told(-1, 1), 0);
    }

    private static void setOfAnAunt() {
        TepidByTreaty x = new TepidByTreaty();
        x.aunt(0, 4, 5);
        x.aunt(1, 6, 7);
        T.due("number 9", x.set(2, 1, 9), 6);
        T.due("number 0", x.set(2, 1, 0), 9);
        T.due("thirst 99", x.set(3, 1, 99), 10);
        T.due("thirst 0", x.set(3, 1, 0), 99);
        T.due("plan 63", x.set(4, 1, 63), 7);
        T.due("plan 0", x.set(4, 1, 0), 63);
        T.due("number of the other", x.told(0, 2), 4);
        T.due("thirst of the other", x.told(0, 3), 10);
        T.due("plan of the other", x.told(0, 4), 5);
        T.due("number now", x.told(1, 2), 0);
        T.due("thirst now", x.told(1, 3), 0);
        T.due("plan now", x.told(1, 4), 0);
        T.due("number of the first", x.set(2, 0, 3), 4);
        T.due("set again", x.set(2, 0, 3), 3);
    }

    private static void setRefuses() {
        TepidByTreaty x = new TepidByTreaty();
        x.aunt(0, 4, 5);
        int[][] bad = {
            {0, 0, -1}, {0, 0, 100}, {1, 0, -1}, {1, 0, 1000}, {2, 0, -1}, {2, 0, 10}, {3, 0, -1}, {3, 0, 100},
            {4, 0, -1}, {4, 0, 64}, {2, 1, 1}, {3, -1, 1}, {4, 5, 1}, {2, MAX, 1}, {3, MIN, 1}, {5, 0, 1}, {-1, 0, 1},
            {6, 0, 1}, {8, 0, 0}, {MAX, 0, 0}, {MIN, 0, 0}, {0, 0, MAX}, {1, 0, MIN}};
        for (int[] b : bad) {
            T.due("set(" + b[0] + ", " + b[1] + ", " + b[2] + ")", x.set(b[0], b[1], b[2]), -2);
        }
        T.due("heat", x.told(0, 0), 80);
        T.due("hour", x.told(0, 1), 0);
        T.due("number", x.told(0, 2), 4);
        T.due("thirst", x.told(0, 3), 10);
        T.due("plan", x.told(0, 4), 5);
        T.due("kind", x.told(0, 5), 0);
        T.due("had", x.told(0, 6), 0);
    }

    private static void auntComes() {
        TepidByTreaty x = new TepidByTreaty();
        T.due("first", x.aunt(0, 0, 0), 0);
        T.due("second", x.aunt(5, 9, 63), 1);
        T.due("third", x.aunt(3, 2, 1), 2);
        T.due("kind", x.told(1, 5), 5);
        T.due("number", x.told(1, 2), 9);
        T.due("thirst", x.told(1, 3), 10);
        T.due("plan", x.told(1, 4), 63);
        T.due("had", x.told(1, 6), 0);
        T.due("kind of the third", x.told(2, 5), 3);
        T.due("fourth", x.aunt(1, 0, 0), 3);
        T.due("fifth", x.aunt(2, 0, 0), 4);
        T.due("sixth", x.aunt(4, 0, 0), -4);
        T.due("bad ahead of full", x.aunt(6, 0, 0), -2);
        T.due("count", x.count(0), 5);
        T.due("thirsts", x.count(5), 50);
    }

    private static void auntRefuses() {
        TepidByTreaty x = new TepidByTreaty();
        int[][] bad = {{-1, 0, 0}, {6, 0, 0}, {0, -1, 0}, {0, 10, 0}, {0, 0, -1}, {0, 0, 64}, {MAX, 0, 0}, {0, MIN, 0}, {0, 0, MAX}};
        for (int[] b : bad) {
            T.due("aunt(" + b[0] + ", " + b[1] + ", " + b[2] + ")", x.aunt(b[0], b[1], b[2]), -2);
        }
        T.due("count", x.count(0), 0);
    }

    private static void toldAll() {
        TepidByTreaty x = new TepidByTreaty();
        x.aunt(2, 7, 1);
        T.due("kind", x.told(0, 5), 2);
        x.hour();
        // a MEEK with 7, by THE RULE at first: 77 and 7
        T.due("had", x.told(0, 6), 84);
        int[][] none = {{1, 2}, {-1, 3}, {1, 4}, {1, 5}, {1, 6}, {1, 7}, {0, 8}, {0, -1}, {MAX, 2}, {MIN, 6}, {0, MAX}, {0, MIN}};
        for (int[] b : none) {
            T.due("told(" + b[0] + ", " + b[1] + ")", x.told(b[0], b[1]), -1000000);
        }
    }

    private static void toldTakes() {
        int[][] takes = {{0, 6, 6}, {1, 6, 15}, {2, 3, 3}, {3, 6, 15}, {4, 4, 4}, {5, 0, 0}};
        for (int[] t : takes) {
            TepidByTreaty x = new TepidByTreaty();
            x.aunt(t[0], 0, 0);
            T.due("takes of kind " + t[0], x.told(0, 7), t[1]);
            x.set(2, 0, 9);
            T.due("takes of kind " + t[0] + " with 9", x.told(0, 7), t[2]);
        }
    }
}
