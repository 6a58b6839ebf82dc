/**
 * One pot of tea under a cosy, up to five aunts of kinds round it, and the texts by which they may pour.
 * What each call does is told, as numbered promises, in DOC.md.
 */
public final class TepidByTreaty {
    public static final int NONE = -1, BAD = -2, STATE = -3, FULL = -4;
    public static final long NO = -4611686018427387904L;

    private static final int MISSING = -11, OUTSIDE = -12, UNLIKE = -13, BELOW = -14;
    private static final int NO_ANSWER = -1000000;
    private static final int FAULT_AT_0 = -100;

    private static final int MINUTES = 6, MOST_AUNTS = 5, MOST_TEXTS = 6, MOST_BYTES = 160, SHEETS = 4, MOST_CELLS = 40;
    private static final int HEATS = 100, HOURS = 1000, NUMBERS = 10, THIRSTS = 100, PLANS = 64, KINDS = 6;
    private static final int PLANS_TOGETHER = 16, MOST_HAD = 999999, MOST_HOTTER = 9999, MOST_SEEDS = 20;

    /** What a call of set() or told() means by its number; RULE is of no call. */
    private static final int HEAT = 0, HOUR = 1, NUMBER = 2, THIRST = 3, PLAN = 4, KIND = 5, HAD = 6, TAKES = 7, RULE = 8;

    private static final int BYTES = 0, SHORTS = 1, INTS = 2;

    private final Table now = new Table();
    private final Table kept = new Table();
    private final Table thought = new Table();
    private final Glass glass = new Glass();
    private final Reader reader = new Reader();
    private final Text[] texts = new Text[MOST_TEXTS];
    private final Sheet[] sheets = new Sheet[SHEETS];
    private int textsRead;
    private boolean hasImage;

    public TepidByTreaty() {
        for (int i = 0; i < MOST_TEXTS; i++) {
            texts[i] = new Text();
        }
        for (int i = 0; i < SHEETS; i++) {
            sheets[i] = new Sheet();
        }
        reader.laysOut("may shown < 1 ; joys heat ; cools 3 ;");
        text();
    }

    // ---- the pot, aunts

    public int set(int what, int of, int v) {
        if (what < HEAT || what > PLAN || !isOf(what, of) || v < 0 || v >= values(what)) {
            return BAD;
        }
        int was = now.at(what, of);
        now.put(what, of, v);
        return was;
    }

    public int aunt(int kind, int number, int plan) {
        if (kind < 0 || kind >= KINDS || number < 0 || number >= NUMBERS || plan < 0 || plan >= PLANS) {
            return BAD;
        }
        return now.size < MOST_AUNTS ? now.seats(kind, number, plan) : FULL;
    }

    public int told(int of, int what) {
        if (what < HEAT || what > TAKES || !isOf(what, of)) {
            return NO_ANSWER;
        }
        return now.at(what, of);
    }

    // ---- texts

    public int feed(int letter) {
        if (letter < 0 || letter > 255) {
            return BAD;
        }
        return reader.takesByte(letter) ? reader.size : FULL;
    }

    public int text() {
        if (textsRead >= MOST_TEXTS) {
            return FULL;
        }
        int fault = reader.readsTape();
        reader.size = 0;
        if (fault != NONE) {
            return FAULT_AT_0 - fault;
        }
        texts[textsRead].becomes(reader.code, reader.ends);
        return textsRead++;
    }

    public int force(int text) {
        if (text < 0 || text >= textsRead) {
            return BAD;
        }
        int was = now.rule;
        now.rule = text;
        return was;
    }

    // ---- an hour

    public int minute(int m, int what) {
        if (m < 0 || m >= MINUTES || what < 0 || what > 3) {
            return BAD;
        }
        think(now);
        switch (what) {
            case 0: return glass.behind[m];
            case 1: return glass.showed[m];
            case 2: return glass.poured[m];
            default: return glass.denied[m];
        }
    }

    public int share(int aunt) {
        if (aunt != NONE && !isAunt(aunt)) {
            return NO_ANSWER;
        }
        think(now);
        return aunt == NONE ? glass.joyOfAll() : glass.joy[aunt];
    }

    public int cups(int aunt) {
        if (!isAunt(aunt)) {
            return BAD;
        }
        think(now);
        return glass.cupsHad[aunt];
    }

    public int hour() {
        if (now.hour >= HOURS - 1) {
            return NO_ANSWER;
        }
        think(now);
        for (int a = 0; a < now.size; a++) {
            now.had[a] = within(now.had[a] + glass.joy[a], -MOST_HAD, MOST_HAD);
            now.thirst[a] = glass.thirst[a];
        }
        now.heat = glass.heat;
        now.hour++;
        return glass.joyOfAll();
    }

    // ---- what would be best

    public int best(int aunt, int what) {
        if (!isAunt(aunt) || !isEither(what)) {
            return NO_ANSWER;
        }
        int plan = bestPlan(aunt);
        return what == 0 ? plan : shareBy(aunt, plan);
    }

    public int rest() {
        for (int a = 0; a < now.size; a++) {
            if (wouldRather(a, bestPlan(a))) {
                return 0;
            }
        }
        return 1;
    }

    public int settle() {
        int changed = 0;
        for (int a = 0; a < now.size; a++) {
            int plan = bestPlan(a);
            if (wouldRather(a, plan)) {
                now.plan[a] = plan;
                changed++;
            }
        }
        return changed;
    }

    public int greediest(int what) {
        if (!isEither(what)) {
            return NO_ANSWER;
        }
        think(now);
        int who = NONE;
        int most = 0;
        for (int a = 0; a < now.size; a++) {
            if (who == NONE || glass.joy[a] > most) {
                who = a;
                most = glass.joy[a];
            }
        }
        return what == 0 ? who : most;
    }

    public int together(int one, int other, int what) {
        if (!isAunt(one) || !isAunt(other) || one == other || !isEither(what)) {
            return NO_ANSWER;
        }
        int plans = 0;
        int most = 0;
        thought.becomes(now);
        for (int pair = 0; pair < PLANS_TOGETHER * PLANS_TOGETHER; pair++) {
            thought.plan[one] = pair / PLANS_TOGETHER;
            thought.plan[other] = pair % PLANS_TOGETHER;
            think(thought);
            int both = glass.joy[one] + glass.joy[other];
            if (pair == 0 || both > most) {
                most = both;
                plans = 100 * thought.plan[one] + thought.plan[other];
            }
        }
        return what == 0 ? plans : most;
    }

    public int hotter(int k) {
        if (k < -MOST_HOTTER || k > MOST_HOTTER) {
            return BAD;
        }
        thought.becomes(now);
        for (int h = 0; h < HEATS; h++) {
            thought.heat = h;
            think(thought);
            if (glass.joyOfAll() >= k) {
                return h;
            }
        }
        return NONE;
    }

    public int breaks(int what) {
        if (!isEither(what)) {
            return BAD;
        }
        think(now);
        int m = glass.firstBreach();
        if (m == NONE || what == 1) {
            return m;
        }
        return Integer.numberOfTrailingZeros(glass.denied[m]);
    }

    // ---- heat that was told

    public int tells(int sheet, int what) {
        if (!isSheet(sheet) || !isTelling(what)) {
            return BAD;
        }
        Sheet row = sheets[sheet];
        if (row.sort == NONE) {
            return MISSING;
        }
        if (row.size > MINUTES) {
            return BAD;
        }
        int aunt = what % 10;
        switch (what / 10) {
            case 0: return what == 0 ? firstOther(now, row) : bitsTold(row, RULE, NONE);
            case 1: return bitsTold(row, KIND, aunt);
            case 2: return bitsTold(row, NUMBER, aunt);
            case 3: return howManyTold(row, THIRST, aunt);
            case 4: return leastTold(row, THIRST, aunt);
            case 5: return howManyTold(row, PLAN, aunt);
            default: return leastTold(row, PLAN, aunt);
        }
    }

    public int film(int sheet, int n) {
        if (!isSheet(sheet) || n < 0 || n > MINUTES) {
            return BAD;
        }
        think(now);
        Sheet row = sheets[sheet];
        row.becomes(BYTES, n);
        for (int m = 0; m < n; m++) {
            row.put(m, glass.behind[m]);
        }
        return n;
    }

    public int drawn(int seed) {
        thought.becomes(now);
        drawThirsts(seed);
        think(thought);
        return glass.joyOfAll();
    }

    public long chance(int seed, int m, int part) {
        if (m < 1 || m > MOST_SEEDS || !isEither(part)) {
            return NO;
        }
        int quiet = 0;
        thought.becomes(now);
        for (int i = 0; i < m; i++) {
            drawThirsts(seed + i);
            think(thought);
            if (glass.firstBreach() == NONE) {
                quiet++;
            }
        }
        int common = commonDivisor(quiet, m);
        return common < 1 ? NO : (part == 0 ? quiet : m) / common;
    }

    public int image() {
        kept.becomes(now);
        hasImage = true;
        return now.size;
    }

    public int back() {
        if (!hasImage) {
            return STATE;
        }
        now.becomes(kept);
        return now.size;
    }

    public int count(int what) {
        switch (what) {
            case 0: return now.size;
            case 1: return now.hour;
            case 2: return textsRead;
            case 3: return reader.size;
            case 4: return now.rule;
            case 5: return now.thirstOfAll();
            default: return BAD;
        }
    }

    // ---- the host

    public int sheet(int sheet, int sort, int n) {
        if (!isSheet(sheet) || (sort != NONE && !isSort(sort))) {
            return BAD;
        }
        if (sort != NONE && n > MOST_CELLS) {
            return BAD;
        }
        if (sort != NONE && n < 0) {
            return BELOW;
        }
        sheets[sheet].becomes(sort, sort == NONE ? 0 : n);
        return 1;
    }

    public int cell(int sheet, int i, int v) {
        if (!isSheet(sheet)) {
            return BAD;
        }
        Sheet row = sheets[sheet];
        if (row.sort == NONE) {
            return MISSING;
        }
        if (i < 0 || i >= row.size) {
            return OUTSIDE;
        }
        row.put(i, v);
        return 1;
    }

    public int copy(int sheet, int i, int other, int j, int n) {
        if (!isSheet(sheet) || !isSheet(other)) {
            return BAD;
        }
        Sheet source = sheets[sheet];
        Sheet target = sheets[other];
        if (source.sort == NONE || target.sort == NONE) {
            return MISSING;
        }
        if (source.sort != target.sort) {
            return UNLIKE;
        }
        if (!source.holds(i, n) || !target.holds(j, n)) {
            return OUTSIDE;
        }
        // arraycopy reads all before it writes, also within one row
        System.arraycopy(source.cells, i, target.cells, j, n);
        return n;
    }

    public int aunts(int sheet, int sort, int from, int n) {
        if (!isSheet(sheet) || !isSort(sort) || n < 0 || n > MOST_AUNTS) {
            return BAD;
        }
        Sheet row = sheets[sheet];
        if (row.sort != NONE && row.sort != sort) {
            return UNLIKE;
        }
        if (row.sort == NONE) {
            return MISSING;
        }
        int came = 0;
        for (int k = 0; k < n; k++) {
            int i = from + 3 * k;
            if (!row.holds(i, 3)) {
                return OUTSIDE;
            }
            if (aunt(row.cells[i], row.cells[i + 1], row.cells[i + 2]) >= 0) {
                came++;
            }
        }
        return came;
    }

    public int taken(int aunt, int k) {
        if (k < 0 || k >= KINDS) {
            return BAD;
        }
        if (!isAunt(aunt)) {
            return MISSING;
        }
        return Kinds.isUnder(now.kind[aunt], k) ? now.number[aunt] : UNLIKE;
    }

    // ---- what may be asked

    private boolean isAunt(int of) {
        return of >= 0 && of < now.size;
    }

    /** Heat and hour are of nobody: there it does not matter whom one names. */
    private boolean isOf(int what, int of) {
        return what == HEAT || what == HOUR || isAunt(of);
    }

    private boolean isTelling(int what) {
        if (what < 10) {
            return isEither(what);
        }
        return what < 70 && isAunt(what % 10);
    }

    private static boolean isEither(int what) {
        return what == 0 || what == 1;
    }

    private static boolean isSheet(int sheet) {
        return sheet >= 0 && sheet < SHEETS;
    }

    private static boolean isSort(int sort) {
        return sort >= BYTES && sort <= INTS;
    }

    /** How many values, from 0 on, there are of a thing that can be put. */
    private int values(int what) {
        switch (what) {
            case HEAT: return HEATS;
            case HOUR: return HOURS;
            case NUMBER: return NUMBERS;
            case THIRST: return THIRSTS;
            case PLAN: return PLANS;
            case KIND: return KINDS;
            case RULE: return textsRead;
            default: return 0;
        }
    }

    // ---- what the calls share

    /** The glass shows all of an hour as it would be from this table. */
    private void think(Table table) {
        glass.turns(table);
        for (int m = 0; m < MINUTES; m++) {
            glass.passes(m, table, texts[table.rule]);
        }
    }

    private int shareBy(int aunt, int plan) {
        thought.becomes(now);
        thought.plan[aunt] = plan;
        think(thought);
        return glass.joy[aunt];
    }

    private int bestPlan(int aunt) {
        int bestYet = 0;
        int most = shareBy(aunt, 0);
        for (int plan = 1; plan < PLANS; plan++) {
            int share = shareBy(aunt, plan);
            if (share > most) {
                most = share;
                bestYet = plan;
            }
        }
        return bestYet;
    }

    private boolean wouldRather(int aunt, int plan) {
        return shareBy(aunt, plan) > shareBy(aunt, now.plan[aunt]);
    }

    private int firstOther(Table table, Sheet row) {
        glass.turns(table);
        for (int m = 0; m < MINUTES && m < row.size; m++) {
            glass.passes(m, table, texts[table.rule]);
            if (glass.heat != row.cells[m]) {
                return m;
            }
        }
        return NONE;
    }

    private boolean isToldBy(Sheet row, int what, int of, int v) {
        thought.becomes(now);
        thought.put(what, of, v);
        return firstOther(thought, row) == NONE;
    }

    private int bitsTold(Sheet row, int what, int of) {
        int bits = 0;
        for (int v = 0; v < values(what); v++) {
            if (isToldBy(row, what, of, v)) {
                bits |= 1 << v;
            }
        }
        return bits;
    }

    private int howManyTold(Sheet row, int what, int of) {
        int many = 0;
        for (int v = 0; v < values(what); v++) {
            if (isToldBy(row, what, of, v)) {
                many++;
            }
        }
        return many;
    }

    private int leastTold(Sheet row, int what, int of) {
        for (int v = 0; v < values(what); v++) {
            if (isToldBy(row, what, of, v)) {
                return v;
            }
        }
        return NONE;
    }

    private void drawThirsts(int seed) {
        int z = seed;
        for (int a = 0; a < thought.size; a++) {
            z = z * 1103515245 + 12345;
            thought.thirst[a] = (z >>> 9) % 50;
        }
    }

    private static int commonDivisor(int one, int other) {
        int a = one;
        int b = other;
        // two rounds halve b at least, so 64 are enough for any int
        for (int round = 0; round < 64 && b != 0; round++) {
            int left = a % b;
            a = b;
            b = left;
        }
        return a;
    }

    private static int within(int v, int least, int most) {
        return Math.max(least, Math.min(most, v));
    }

    /** What the kinds have of their own, and which stands under which. */
    private static final class Kinds {
        private static final int AUNT = 0, PROUD = 1, MEEK = 2, LAME = 3, SLY = 4, MAID = 5;
        private static final int[] ABOVE = {NONE, AUNT, AUNT, PROUD, MEEK, AUNT};

        static boolean showsWant(int kind, int number, int thirst, int m) {
            boolean proud = thirst > 5 * number + 20;
            boolean meek = thirst > 0;
            switch (kind) {
                case PROUD: return proud;
                case MEEK: return meek;
                case LAME: return proud || m % 2 == 1;
                case SLY: return meek && m >= number;
                case MAID: return false;
                default: return thirst > 20;
            }
        }

        static int joyOfCup(int kind, int number, int v, int h) {
            int proud = h > 60 ? 2 * v : 0;
            int meek = v + number;
            switch (kind) {
                case PROUD: return proud;
                case MEEK: return meek;
                case LAME: return proud + 3;
                case SLY: return meek / 2;
                case MAID: return 1;
                default: return v;
            }
        }

        static int takesOfHeat(int kind, int number) {
            int any = 6;
            switch (kind) {
                case PROUD:
                case LAME: return any + number;
                case MEEK: return any / 2;
                case SLY: return any / 2 + 1;
                case MAID: return 0;
                default: return any;
            }
        }

        static boolean isUnder(int kind, int above) {
            int k = kind;
            for (int step = 0; step < KINDS && k >= 0 && k < KINDS; step++) {
                if (k == above) {
                    return true;
                }
                k = ABOVE[k];
            }
            return false;
        }
    }

    /** The pot and all who sit round it: as it is, as an image keeps it, or as one thinks it. */
    private static final class Table {
        int heat = 80;
        int hour;
        int rule;
        int size;
        final int[] kind = new int[MOST_AUNTS];
        final int[] number = new int[MOST_AUNTS];
        final int[] thirst = new int[MOST_AUNTS];
        final int[] plan = new int[MOST_AUNTS];
        final int[] had = new int[MOST_AUNTS];

        int seats(int ofKind, int herNumber, int herPlan) {
            int a = size;
            kind[a] = ofKind;
            number[a] = herNumber;
            thirst[a] = 10;
            plan[a] = herPlan;
            had[a] = 0;
            size++;
            return a;
        }

        void becomes(Table other) {
            heat = other.heat;
            hour = other.hour;
            rule = other.rule;
            size = other.size;
            System.arraycopy(other.kind, 0, kind, 0, MOST_AUNTS);
            System.arraycopy(other.number, 0, number, 0, MOST_AUNTS);
            System.arraycopy(other.thirst, 0, thirst, 0, MOST_AUNTS);
            System.arraycopy(other.plan, 0, plan, 0, MOST_AUNTS);
            System.arraycopy(other.had, 0, had, 0, MOST_AUNTS);
        }

        int at(int what, int of) {
            switch (what) {
                case HEAT: return heat;
                case HOUR: return hour;
                case NUMBER: return number[of];
                case THIRST: return thirst[of];
                case PLAN: return plan[of];
                case KIND: return kind[of];
                case HAD: return had[of];
                case TAKES: return Kinds.takesOfHeat(kind[of], number[of]);
                default: return rule;
            }
        }

        void put(int what, int of, int v) {
            switch (what) {
                case HEAT: heat = v; break;
                case HOUR: hour = v; break;
                case NUMBER: number[of] = v; break;
                case THIRST: thirst[of] = v; break;
                case PLAN: plan[of] = v; break;
                case KIND: kind[of] = v; break;
                case RULE: rule = v; break;
                default: break;
            }
        }

        int thirstOfAll() {
            int sum = 0;
            for (int a = 0; a < size; a++) {
                sum += thirst[a];
            }
            return sum;
        }
    }

    /** An hourglass: an hour that runs off a table without changing it. */
    private static final class Glass {
        int heat;
        final int[] thirst = new int[MOST_AUNTS];
        final int[] cupsHad = new int[MOST_AUNTS];
        final int[] joy = new int[MOST_AUNTS];
        final int[] behind = new int[MINUTES];
        final int[] showed = new int[MINUTES];
        final int[] poured = new int[MINUTES];
        final int[] denied = new int[MINUTES];
        private int size;
        private final int[] view = new int[Text.NAMES];
        private final int[] stack = new int[MOST_BYTES];

        void turns(Table table) {
            heat = table.heat;
            size = table.size;
            for (int a = 0; a < MOST_AUNTS; a++) {
                thirst[a] = table.thirst[a];
                cupsHad[a] = 0;
                joy[a] = 0;
            }
        }

        void passes(int m, Table table, Text rule) {
            showed[m] = wants(m, table);
            poured[m] = 0;
            denied[m] = 0;
            looks(NONE, m, table);
            heat = Math.max(0, heat - within(rule.value(Text.COOLS, view, stack), 0, 40));
            for (int a = 0; a < size; a++) {
                if ((table.plan[a] >> m & 1) == 1) {
                    reaches(a, m, table, rule);
                }
            }
            for (int a = 0; a < size; a++) {
                thirst[a] = Math.min(THIRSTS - 1, thirst[a] + 2);
            }
            behind[m] = heat;
        }

        private int wants(int m, Table table) {
            int bits = 0;
            for (int a = 0; a < size; a++) {
                if (Kinds.showsWant(table.kind[a], table.number[a], thirst[a], m)) {
                    bits |= 1 << a;
                }
            }
            return bits;
        }

        private void reaches(int a, int m, Table table, Text rule) {
            looks(a, m, table);
            if (rule.value(Text.MAY, view, stack) == 0) {
                denied[m] |= 1 << a;
                return;
            }
            int v = within(rule.value(Text.JOYS, view, stack), -99, 99);
            joy[a] += Kinds.joyOfCup(table.kind[a], table.number[a], v, heat);
            heat = Math.max(0, heat - Kinds.takesOfHeat(table.kind[a], table.number[a]));
            thirst[a] = Math.max(0, thirst[a] - 10);
            cupsHad[a]++;
            poured[m] |= 1 << a;
        }

        /** The view holds what the names of a text mean now, for an aunt or (NONE) for nobody. */
        private void looks(int a, int m, Table table) {
            boolean nobody = a == NONE;
            int others = nobody ? showed[m] : showed[m] & ~(1 << a);
            view[0] = heat;
            view[1] = nobody ? 0 : thirst[a];
            view[2] = nobody ? 0 : table.number[a];
            view[3] = Integer.bitCount(others);
            view[4] = m;
            view[5] = nobody ? 0 : cupsHad[a];
        }

        int joyOfAll() {
            int sum = 0;
            for (int a = 0; a < size; a++) {
                sum += joy[a];
            }
            return sum;
        }

        int firstBreach() {
            for (int m = 0; m < MINUTES; m++) {
                if (denied[m] != 0) {
                    return m;
                }
            }
            return NONE;
        }
    }

    /** A text that was read: three parts of words, operands ahead of their operators; a word of 0 or more is a number. */
    private static final class Text {
        static final int MAY = 0, JOYS = 1, COOLS = 2, PARTS = 3, NAMES = 6;
        private final int[] code = new int[MOST_BYTES];
        private final int[] ends = new int[PARTS];

        void becomes(int[] readCode, int[] readEnds) {
            System.arraycopy(readCode, 0, code, 0, MOST_BYTES);
            System.arraycopy(readEnds, 0, ends, 0, PARTS);
        }

        int value(int part, int[] view, int[] stack) {
            int top = 0;
            for (int i = part == MAY ? 0 : ends[part - 1]; i < ends[part]; i++) {
                int word = code[i];
                int name = -word - Reader.NAME;
                boolean isName = name >= 0 && name < NAMES;
                if ((word >= 0 || isName) && top < stack.length) {
                    stack[top] = isName ? view[name] : word;
                    top++;
                } else if (-word == Reader.NEGATE && top >= 1) {
                    stack[top - 1] = -stack[top - 1];
                } else if (-word == Reader.NOT && top >= 1) {
                    stack[top - 1] = stack[top - 1] == 0 ? 1 : 0;
                } else if (top >= 2) {
                    top--;
                    stack[top - 1] = joined(-word, stack[top - 1], stack[top]);
                }
            }
            return top > 0 ? stack[top - 1] : 0;
        }

        private static int joined(int token, int a, int b) {
            switch (token) {
                case '+': return a + b;
                case '-': return a - b;
                case '*': return a * b;
                case '<': return a < b ? 1 : 0;
                case '=': return a == b ? 1 : 0;
                case Reader.AND: return a != 0 && b != 0 ? 1 : 0;
                default: return a != 0 || b != 0 ? 1 : 0;
            }
        }
    }

    /** Reads the tape, token by token; where it can't go on, the token that it stands at is the fault. */
    private static final class Reader {
        /** Tokens; signs are their own characters, the names are NAME and those behind it. */
        static final int END = 0, WRONG = 1, DIGITS = 2, OR = 6, AND = 7, NOT = 8, NEGATE = 9, NAME = 10;
        private static final int KEY_MAY = 3, KEY_JOYS = 4, KEY_COOLS = 5;
        private static final int MOST_OPEN = 5, MOST_DIGITS = 4;

        int size;
        final int[] code = new int[MOST_BYTES];
        final int[] ends = new int[Text.PARTS];
        private final int[] tape = new int[MOST_BYTES];
        private int used;
        private int at;
        private int place;
        private int token;
        private int amount;

        boolean takesByte(int letter) {
            if (size >= MOST_BYTES) {
                return false;
            }
            tape[size] = letter;
            size++;
            return true;
        }

        void laysOut(String letters) {
            for (int i = 0; i < letters.length(); i++) {
                takesByte(letters.charAt(i));
            }
        }

        /** The place of the fault, or NONE. */
        int readsTape() {
            at = 0;
            used = 0;
            steps();
            for (int part = 0; part < Text.PARTS; part++) {
                if (token != KEY_MAY + part) {
                    return place;
                }
                steps();
                if (!readsOr(0) || token != ';') {
                    return place;
                }
                steps();
                ends[part] = used;
            }
            return token == END ? NONE : place;
        }

        // Each of these reads its part of an E and answers whether that could stand there. "open" tells how many
        // of (, not and - are open: it grows with each of them, so it also bounds how deep the calls go.

        private boolean readsOr(int open) {
            boolean sound = readsAnd(open);
            for (int k = 0; k < MOST_BYTES && sound && token == OR; k++) {
                steps();
                sound = readsAnd(open);
                writes(-OR);
            }
            return sound;
        }

        private boolean readsAnd(int open) {
            boolean sound = readsNot(open);
            for (int k = 0; k < MOST_BYTES && sound && token == AND; k++) {
                steps();
                sound = readsNot(open);
                writes(-AND);
            }
            return sound;
        }

        private boolean readsNot(int open) {
            if (token == NOT) {
                if (open >= MOST_OPEN) {
                    return false;
                }
                steps();
                boolean sound = readsNot(open + 1);
                writes(-NOT);
                return sound;
            }
            boolean sound = readsSum(open);
            if (sound && (token == '<' || token == '=')) {
                int sign = token;
                steps();
                sound = readsSum(open);
                writes(-sign);
            }
            return sound;
        }

        private boolean readsSum(int open) {
            boolean sound = readsTerm(open);
            for (int k = 0; k < MOST_BYTES && sound && (token == '+' || token == '-'); k++) {
                int sign = token;
                steps();
                sound = readsTerm(open);
                writes(-sign);
            }
            return sound;
        }

        private boolean readsTerm(int open) {
            boolean sound = readsOne(open);
            for (int k = 0; k < MOST_BYTES && sound && token == '*'; k++) {
                steps();
                sound = readsOne(open);
                writes(-'*');
            }
            return sound;
        }

        private boolean readsOne(int open) {
            if (token == DIGITS) {
                writes(amount);
                steps();
                return true;
            }
            if (token >= NAME && token < NAME + Text.NAMES) {
                writes(-token);
                steps();
                return true;
            }
            if ((token != '-' && token != '(') || open >= MOST_OPEN) {
                return false;
            }
            if (token == '-') {
                steps();
                boolean sound = readsOne(open + 1);
                writes(-NEGATE);
                return sound;
            }
            steps();
            if (!readsOr(open + 1) || token != ')') {
                return false;
            }
            steps();
            return true;
        }

        /** Each word comes of a token of its own, so there is always room on a sound tape. */
        private void writes(int word) {
            if (used < MOST_BYTES) {
                code[used] = word;
                used++;
            }
        }

        private void steps() {
            while (at < size && (tape[at] == ' ' || tape[at] == '\n')) {
                at++;
            }
            place = at;
            if (at >= size) {
                token = END;
            } else if (isLetter(tape[at])) {
                while (at < size && isLetter(tape[at])) {
                    at++;
                }
                token = wordRead();
            } else if (isDigit(tape[at])) {
                amount = 0;
                while (at < size && isDigit(tape[at])) {
                    amount = amount * 10 + tape[at] - '0';
                    at++;
                }
                token = at - place > MOST_DIGITS ? WRONG : DIGITS;
            } else {
                token = isSign(tape[at]) ? tape[at] : WRONG;
                at++;
            }
        }

        private int wordRead() {
            if (spells("may")) return KEY_MAY;
            if (spells("joys")) return KEY_JOYS;
            if (spells("cools")) return KEY_COOLS;
            if (spells("or")) return OR;
            if (spells("and")) return AND;
            if (spells("not")) return NOT;
            if (spells("heat")) return NAME;
            if (spells("thirst")) return NAME + 1;
            if (spells("number")) return NAME + 2;
            if (spells("shown")) return NAME + 3;
            if (spells("minute")) return NAME + 4;
            if (spells("cups")) return NAME + 5;
            return WRONG;
        }

        private boolean spells(String word) {
            if (at - place != word.length()) {
                return false;
            }
            for (int i = 0; i < word.length(); i++) {
                if (tape[place + i] != word.charAt(i)) {
                    return false;
                }
            }
            return true;
        }

        private static boolean isLetter(int b) {
            return b >= 'a' && b <= 'z';
        }

        private static boolean isDigit(int b) {
            return b >= '0' && b <= '9';
        }

        private static boolean isSign(int b) {
            return b == '(' || b == ')' || b == ';' || b == '+' || b == '-' || b == '*' || b == '<' || b == '=';
        }
    }

    /** A row of numbers of a sort; of sort NONE it is missing. */
    private static final class Sheet {
        int sort = NONE;
        int size;
        final int[] cells = new int[MOST_CELLS];

        void becomes(int newSort, int newSize) {
            sort = newSort;
            size = newSize;
            for (int i = 0; i < MOST_CELLS; i++) {
                cells[i] = 0;
            }
        }

        void put(int i, int v) {
            cells[i] = sort == BYTES ? (byte) v : sort == SHORTS ? (short) v : v;
        }

        /** Whether n places from i on lie within it; n of 0 may stand behind the last. */
        boolean holds(int i, int n) {
            return i >= 0 && n >= 0 && i <= size && n <= size - i;
        }
    }
}
