import java.util.ArrayList;
import java.util.Arrays;
import java.util.List;
import java.util.Map;
import java.util.function.IntPredicate;

/** The document written down a second time, as plainly as can be, to hold the class against. */
final class Model {
    private static final int NONE = -1, BAD = -2, STATE = -3, FULL = -4, NO_ANSWER = -1000000;
    private static final long NO = -4611686018427387904L;

    // ---- kinds, each as it says how it differs from the one above it

    static class Kind {
        boolean shows(int number, int thirst, int m) { return thirst > 20; }
        int joy(int number, int v, int h) { return v; }
        int takes(int number) { return 6; }
    }

    static class Proud extends Kind {
        @Override boolean shows(int number, int thirst, int m) { return thirst > 5 * number + 20; }
        @Override int joy(int number, int v, int h) { return h > 60 ? 2 * super.joy(number, v, h) : 0; }
        @Override int takes(int number) { return super.takes(number) + number; }
    }

    static class Meek extends Kind {
        @Override boolean shows(int number, int thirst, int m) { return thirst > 0; }
        @Override int joy(int number, int v, int h) { return super.joy(number, v, h) + number; }
        @Override int takes(int number) { return super.takes(number) / 2; }
    }

    static final class Lame extends Proud {
        @Override boolean shows(int number, int thirst, int m) { return super.shows(number, thirst, m) || m % 2 != 0; }
        @Override int joy(int number, int v, int h) { return super.joy(number, v, h) + 3; }
    }

    static final class Sly extends Meek {
        @Override boolean shows(int number, int thirst, int m) { return !(m < number) && super.shows(number, thirst, m); }
        @Override int joy(int number, int v, int h) { return super.joy(number, v, h) / 2; }
        @Override int takes(int number) { return super.takes(number) + 1; }
    }

    static final class Maid extends Kind {
        @Override boolean shows(int number, int thirst, int m) { return false; }
        @Override int joy(int number, int v, int h) { return 1; }
        @Override int takes(int number) { return 0; }
    }

    private static final Kind[] KINDS = {new Kind(), new Proud(), new Meek(), new Lame(), new Sly(), new Maid()};

    // ---- texts: a list of tokens first, then trees of what can be told

    interface Tree { int value(Map<String, Integer> names); }

    record Token(String what, int place) { }

    record Text(Tree may, Tree joys, Tree cools) { }

    static final class Fault extends Exception {
        private static final long serialVersionUID = 1;
        final int place;
        Fault(int place) { this.place = place; }
    }

    static final class Parser {
        static final List<String> NAMES = List.of("heat", "thirst", "number", "shown", "minute", "cups");
        static final List<String> KEYS = List.of("may", "joys", "cools", "or", "and", "not");
        final List<Token> tokens = new ArrayList<>();
        int at;
        int open;

        Parser(String tape) {
            java.util.regex.Matcher m = java.util.regex.Pattern.compile("[a-z]+|[0-9]+|[^ \\n]", java.util.regex.Pattern.DOTALL).matcher(tape);
            while (m.find()) {
                String t = m.group();
                boolean sound = NAMES.contains(t) || KEYS.contains(t) || t.matches("[0-9]{1,4}|[();+*<=-]");
                tokens.add(new Token(sound ? t : "wrong", m.start()));
            }
            tokens.add(new Token("end", tape.length()));
        }

        boolean is(String what) { return tokens.get(at).what.equals(what); }

        Fault fault() { return new Fault(tokens.get(at).place); }

        void needs(String what) throws Fault {
            if (!is(what)) throw fault();
            at++;
        }

        void opens() throws Fault {
            if (open == 5) throw fault();
            open++;
            at++;
        }

        Text text() throws Fault {
            needs("may");
            Tree may = or();
            needs(";");
            needs("joys");
            Tree joys = or();
            needs(";");
            needs("cools");
            Tree cools = or();
            needs(";");
            needs("end");
            return new Text(may, joys, cools);
        }

        Tree or() throws Fault {
            Tree left = and();
            while (is("or")) {
                at++;
                Tree a = left, b = and();
                left = n -> (a.value(n) != 0) | (b.value(n) != 0) ? 1 : 0;
            }
            return left;
        }

        Tree and() throws Fault {
            Tree left = not();
            while (is("and")) {
                at++;
                Tree a = left, b = not();
                left = n -> (a.value(n) != 0) & (b.value(n) != 0) ? 1 : 0;
            }
            return left;
        }

        Tree not() throws Fault {
            if (is("not")) {
                opens();
                Tree a = not();
                open--;
                return n -> a.value(n) == 0 ? 1 : 0;
            }
            Tree a = sum();
            if (is("<")) {
                at++;
                Tree b = sum();
                return n -> a.value(n) < b.value(n) ? 1 : 0;
            }
            if (is("=")) {
                at++;
                Tree b = sum();
                return n -> a.value(n) == b.value(n) ? 1 : 0;
            }
            return a;
        }

        Tree sum() throws Fault {
            Tree left = term();
            while (is("+") || is("-")) {
                boolean plus = is("+");
                at++;
                Tree a = left, b = term();
                left = plus ? n -> a.value(n) + b.value(n) : n -> a.value(n) - b.value(n);
            }
            return left;
        }

        Tree term() throws Fault {
            Tree left = one();
            while (is("*")) {
                at++;
                Tree a = left, b = one();
                left = n -> a.value(n) * b.value(n);
            }
            return left;
        }

        Tree one() throws Fault {
            String what = tokens.get(at).what;
            if (what.matches("[0-9]+")) {
                at++;
                int v = Integer.parseInt(what);
                return n -> v;
            }
            if (NAMES.contains(what)) {
                at++;
                return n -> n.get(what);
            }
            if (is("-")) {
                opens();
                Tree a = one();
                open--;
                return n -> -a.value(n);
            }
            if (is("(")) {
                opens();
                Tree a = or();
                needs(")");
                open--;
                return a;
            }
            throw fault();
        }
    }

    // ---- the pot

    record Aunt(int kind, int number, int thirst, int plan, int had) {
        Aunt with(int what, int v) {
            return new Aunt(what == 5 ? v : kind, what == 2 ? v : number, what == 3 ? v : thirst, what == 4 ? v : plan, what == 6 ? v : had);
        }
        int at(int what) {
            return new int[] {0, 0, number, thirst, plan, kind, had, KINDS[kind].takes(number)}[what];
        }
    }

    record Pot(int heat, int hour, int rule, List<Aunt> aunts) {
        Pot with(int what, int of, int v) {
            List<Aunt> next = new ArrayList<>(aunts);
            if (what >= 2 && what <= 6) next.set(of, next.get(of).with(what, v));
            return new Pot(what == 0 ? v : heat, what == 1 ? v : hour, what == 8 ? v : rule, next);
        }
    }

    static final class Hour {
        int heat;
        final int[][] seen = new int[6][4];
        final int[] thirst, joy, cups;

        Hour(Pot pot, Text rule) {
            int size = pot.aunts.size();
            heat = pot.heat;
            thirst = pot.aunts.stream().mapToInt(Aunt::thirst).toArray();
            joy = new int[size];
            cups = new int[size];
            for (int m = 0; m < 6; m++) {
                boolean[] shows = new boolean[size];
                int shown = 0;
                for (int a = 0; a < size; a++) {
                    shows[a] = KINDS[pot.aunts.get(a).kind].shows(pot.aunts.get(a).number, thirst[a], m);
                    if (shows[a]) {
                        shown++;
                        seen[m][1] += 1 << a;
                    }
                }
                int cools = rule.cools.value(Map.of("heat", heat, "thirst", 0, "number", 0, "shown", shown, "minute", m, "cups", 0));
                heat = Math.max(0, heat - Math.min(40, Math.max(0, cools)));
                for (int a = 0; a < size; a++) {
                    Aunt aunt = pot.aunts.get(a);
                    if ((aunt.plan & 1 << m) == 0) continue;
                    Map<String, Integer> names = Map.of("heat", heat, "thirst", thirst[a], "number", aunt.number,
                        "shown", shown - (shows[a] ? 1 : 0), "minute", m, "cups", cups[a]);
                    if (rule.may.value(names) == 0) {
                        seen[m][3] += 1 << a;
                        continue;
                    }
                    seen[m][2] += 1 << a;
                    int v = Math.min(99, Math.max(-99, rule.joys.value(names)));
                    joy[a] += KINDS[aunt.kind].joy(aunt.number, v, heat);
                    heat = Math.max(0, heat - KINDS[aunt.kind].takes(aunt.number));
                    thirst[a] = Math.max(0, thirst[a] - 10);
                    cups[a]++;
                }
                for (int a = 0; a < size; a++) thirst[a] = Math.min(99, thirst[a] + 2);
                seen[m][0] = heat;
            }
        }

        int all() { return Arrays.stream(joy).sum(); }

        int breach() {
            for (int m = 0; m < 6; m++) if (seen[m][3] != 0) return m;
            return NONE;
        }
    }

    static final class Row {
        final int sort;
        final int[] items;
        Row(int sort, int n) {
            this.sort = sort;
            items = new int[n];
        }
        void put(int i, int v) { items[i] = sort == 0 ? (byte) v : sort == 1 ? (short) v : v; }
    }

    private Pot pot = new Pot(80, 0, 0, List.of());
    private Pot image;
    private String tape = "";
    private final List<Text> texts = new ArrayList<>();
    private final Row[] rows = new Row[4];

    Model() {
        tape = "may shown < 1 ; joys heat ; cools 3 ;";
        if (text() != 0) throw new IllegalStateException("TEXT 0");
    }

    private Hour hourOf(Pot p) { return new Hour(p, texts.get(p.rule)); }

    private boolean isAunt(int of) { return of >= 0 && of < pot.aunts.size(); }

    private static boolean in(int v, int least, int most) { return v >= least && v <= most; }

    int set(int what, int of, int v) {
        if (!in(what, 0, 4) || what > 1 && !isAunt(of)) return BAD;
        if (!in(v, 0, new int[] {99, 999, 9, 99, 63}[what])) return BAD;
        int was = told(of, what);
        pot = pot.with(what, of, v);
        return was;
    }

    int aunt(int kind, int number, int plan) {
        if (!in(kind, 0, 5) || !in(number, 0, 9) || !in(plan, 0, 63)) return BAD;
        if (pot.aunts.size() == 5) return FULL;
        List<Aunt> next = new ArrayList<>(pot.aunts);
        next.add(new Aunt(kind, number, 10, plan, 0));
        pot = new Pot(pot.heat, pot.hour, pot.rule, next);
        return next.size() - 1;
    }

    int told(int of, int what) {
        if (what == 0) return pot.heat;
        if (what == 1) return pot.hour;
        return in(what, 2, 7) && isAunt(of) ? pot.aunts.get(of).at(what) : NO_ANSWER;
    }

    int feed(int letter) {
        if (!in(letter, 0, 255)) return BAD;
        if (tape.length() == 160) return FULL;
        tape += (char) letter;
        return tape.length();
    }

    int text() {
        if (texts.size() == 6) return FULL;
        String read = tape;
        tape = "";
        try {
            texts.add(new Parser(read).text());
            return texts.size() - 1;
        } catch (Fault f) {
            return -100 - f.place;
        }
    }

    int force(int text) {
        if (!in(text, 0, texts.size() - 1)) return BAD;
        int was = pot.rule;
        pot = pot.with(8, 0, text);
        return was;
    }

    int minute(int m, int what) { return in(m, 0, 5) && in(what, 0, 3) ? hourOf(pot).seen[m][what] : BAD; }

    int share(int aunt) { return aunt == NONE ? hourOf(pot).all() : isAunt(aunt) ? hourOf(pot).joy[aunt] : NO_ANSWER; }

    int cups(int aunt) { return isAunt(aunt) ? hourOf(pot).cups[aunt] : BAD; }

    int hour() {
        if (pot.hour == 999) return NO_ANSWER;
        Hour h = hourOf(pot);
        for (int a = 0; a < pot.aunts.size(); a++) {
            int had = Math.max(-999999, Math.min(999999, pot.aunts.get(a).had + h.joy[a]));
            pot = pot.with(6, a, had).with(3, a, h.thirst[a]);
        }
        pot = pot.with(0, 0, h.heat).with(1, 0, pot.hour + 1);
        return h.all();
    }

    private int shareBy(int aunt, int plan) { return hourOf(pot.with(4, aunt, plan)).joy[aunt]; }

    int best(int aunt, int what) {
        if (!isAunt(aunt) || !in(what, 0, 1)) return NO_ANSWER;
        int plan = 63;
        for (int p = 62; p >= 0; p--) if (shareBy(aunt, p) >= shareBy(aunt, plan)) plan = p;
        return what == 0 ? plan : shareBy(aunt, plan);
    }

    int rest() {
        for (int a = 0; a < pot.aunts.size(); a++) {
            int share = share(a);
            for (int p = 0; p < 64; p++) if (shareBy(a, p) > share) return 0;
        }
        return 1;
    }

    int settle() {
        int changed = 0;
        for (int a = 0; a < pot.aunts.size(); a++) {
            if (best(a, 1) > share(a)) {
                pot = pot.with(4, a, best(a, 0));
                changed++;
            }
        }
        return changed;
    }

    int greediest(int what) {
        if (!in(what, 0, 1)) return NO_ANSWER;
        if (pot.aunts.isEmpty()) return what == 0 ? NONE : 0;
        int[] joy = hourOf(pot).joy;
        int most = Arrays.stream(joy).max().getAsInt();
        for (int a = 0; ; a++) if (joy[a] == most) return what == 0 ? a : most;
    }

    int together(int one, int other, int what) {
        if (!isAunt(one) || !isAunt(other) || one == other || !in(what, 0, 1)) return NO_ANSWER;
        int most = Integer.MIN_VALUE;
        int plans = NONE;
        for (int p = 0; p < 16; p++) {
            for (int q = 0; q < 16; q++) {
                Hour h = hourOf(pot.with(4, one, p).with(4, other, q));
                if (h.joy[one] + h.joy[other] > most) {
                    most = h.joy[one] + h.joy[other];
                    plans = 100 * p + q;
                }
            }
        }
        return what == 0 ? plans : most;
    }

    int hotter(int k) {
        if (!in(k, -9999, 9999)) return BAD;
        for (int h = 0; h <= 99; h++) if (hourOf(pot.with(0, 0, h)).all() >= k) return h;
        return NONE;
    }

    int breaks(int what) {
        if (!in(what, 0, 1)) return BAD;
        Hour h = hourOf(pot);
        for (int m = 0; m < 6; m++) {
            for (int a = 0; a < 5; a++) if ((h.seen[m][3] >> a & 1) == 1) return what == 0 ? a : m;
        }
        return NONE;
    }

    int tells(int sheet, int what) {
        if (!in(sheet, 0, 3) || !in(what, 0, 69) || in(what, 2, 9) || what > 9 && !isAunt(what % 10)) return BAD;
        Row row = rows[sheet];
        if (row == null) return -11;
        if (row.items.length > 6) return BAD;
        int a = what % 10;
        switch (what / 10) {
            case 0: return what == 0 ? other(pot, row) : bits(6, v -> v < texts.size() && other(pot.with(8, 0, v), row) == NONE);
            case 1: return bits(6, v -> other(pot.with(5, a, v), row) == NONE);
            case 2: return bits(10, v -> other(pot.with(2, a, v), row) == NONE);
            case 3: return many(100, v -> other(pot.with(3, a, v), row) == NONE);
            case 4: return least(100, v -> other(pot.with(3, a, v), row) == NONE);
            case 5: return many(64, v -> other(pot.with(4, a, v), row) == NONE);
            default: return least(64, v -> other(pot.with(4, a, v), row) == NONE);
        }
    }

    private int other(Pot p, Row row) {
        Hour h = hourOf(p);
        for (int m = 0; m < row.items.length; m++) if (row.items[m] != h.seen[m][0]) return m;
        return NONE;
    }

    private static int bits(int n, IntPredicate holds) {
        int bits = 0;
        for (int v = n - 1; v >= 0; v--) bits = 2 * bits + (holds.test(v) ? 1 : 0);
        return bits;
    }

    private static int many(int n, IntPredicate holds) {
        return (int) java.util.stream.IntStream.range(0, n).filter(holds).count();
    }

    private static int least(int n, IntPredicate holds) {
        return java.util.stream.IntStream.range(0, n).filter(holds).findFirst().orElse(NONE);
    }

    int film(int sheet, int n) {
        if (!in(sheet, 0, 3) || !in(n, 0, 6)) return BAD;
        rows[sheet] = new Row(0, n);
        for (int m = 0; m < n; m++) rows[sheet].put(m, hourOf(pot).seen[m][0]);
        return n;
    }

    private Pot drawnPot(int seed) {
        int z = seed;
        Pot p = pot;
        for (int a = 0; a < pot.aunts.size(); a++) {
            z = z * 1103515245 + 12345;
            p = p.with(3, a, (z >>> 9) % 50);
        }
        return p;
    }

    int drawn(int seed) { return hourOf(drawnPot(seed)).all(); }

    long chance(int seed, int m, int part) {
        if (!in(m, 1, 20) || !in(part, 0, 1)) return NO;
        int quiet = 0;
        for (int i = 0; i < m; i++) if (hourOf(drawnPot(seed + i)).breach() == NONE) quiet++;
        for (int d = m; d > 1; d--) if (quiet % d == 0 && m % d == 0) return part == 0 ? quiet / d : m / d;
        return part == 0 ? quiet : m;
    }

    int image() {
        image = pot;
        return pot.aunts.size();
    }

    int back() {
        if (image == null) return STATE;
        pot = image;
        return pot.aunts.size();
    }

    int count(int what) {
        if (!in(what, 0, 5)) return BAD;
        int thirsts = pot.aunts.stream().mapToInt(Aunt::thirst).sum();
        return new int[] {pot.aunts.size(), pot.hour, texts.size(), tape.length(), pot.rule, thirsts}[what];
    }

    int sheet(int sheet, int sort, int n) {
        if (!in(sheet, 0, 3) || !in(sort, -1, 2)) return BAD;
        if (sort == -1) {
            rows[sheet] = null;
            return 1;
        }
        if (n > 40) return BAD;
        if (n < 0) return -14;
        rows[sheet] = new Row(sort, n);
        return 1;
    }

    int cell(int sheet, int i, int v) {
        if (!in(sheet, 0, 3)) return BAD;
        if (rows[sheet] == null) return -11;
        if (!in(i, 0, rows[sheet].items.length - 1)) return -12;
        rows[sheet].put(i, v);
        return 1;
    }

    int copy(int sheet, int i, int other, int j, int n) {
        if (!in(sheet, 0, 3) || !in(other, 0, 3)) return BAD;
        if (rows[sheet] == null || rows[other] == null) return -11;
        if (rows[sheet].sort != rows[other].sort) return -13;
        try {
            System.arraycopy(rows[sheet].items, i, rows[other].items, j, n);
        } catch (IndexOutOfBoundsException e) {
            return -12;
        }
        return n;
    }

    int aunts(int sheet, int sort, int from, int n) {
        if (!in(sheet, 0, 3) || !in(sort, 0, 2) || !in(n, 0, 5)) return BAD;
        if (rows[sheet] != null && rows[sheet].sort != sort) return -13;
        if (rows[sheet] == null) return -11;
        int came = 0;
        for (int k = 0; k < n; k++) {
            int[] three = new int[3];
            for (int i = 0; i < 3; i++) {
                long place = (long) from + 3 * k + i;
                if (place < 0 || place >= rows[sheet].items.length) return -12;
                three[i] = rows[sheet].items[(int) place];
            }
            if (aunt(three[0], three[1], three[2]) >= 0) came++;
        }
        return came;
    }

    int taken(int aunt, int k) {
        if (!in(k, 0, 5)) return BAD;
        if (!isAunt(aunt)) return -11;
        Aunt a = pot.aunts.get(aunt);
        return KINDS[k].getClass().isInstance(KINDS[a.kind]) ? a.number : -13;
    }
}
