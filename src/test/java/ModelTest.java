import java.lang.reflect.Method;
import java.lang.reflect.Modifier;
import java.util.ArrayList;
import java.util.Arrays;
import java.util.Comparator;
import java.util.List;
import java.util.Random;

/** All promises: drawn runs of 512 calls, each answer as the Model's; the draws are the same each time. */
public final class ModelTest {
    private static final int RUNS = Integer.getInteger("runs", 300), CALLS = 512;
    private static final int[] ODD = {Integer.MIN_VALUE, Integer.MAX_VALUE, Integer.MAX_VALUE - 1, -1000000, -100, -2, 100, 256, 1000, 65536};
    private static int calls;

    public static void main(String[] args) throws Exception {
        List<Method> face = new ArrayList<>();
        for (Method m : TepidByTreaty.class.getDeclaredMethods()) {
            if (Modifier.isPublic(m.getModifiers())) face.add(m);
        }
        face.sort(Comparator.comparing(Method::getName));
        for (int run = 0; run < RUNS; run++) {
            if (!run(run, face)) System.exit(1);
        }
        System.out.println("ModelTest: " + RUNS + " runs, " + calls + " calls, none other than the model's");
    }

    private static boolean run(int run, List<Method> face) throws Exception {
        Random draw = new Random(run);
        TepidByTreaty x = new TepidByTreaty();
        Model model = new Model();
        List<String> told = new ArrayList<>();
        int left = CALLS;
        int mood = draw.nextInt(4);
        while (left > 0) {
            List<Object[]> next = new ArrayList<>();
            if (draw.nextInt(40) == 0) {
                String letters = letters(draw);
                for (char c : letters.toCharArray()) next.add(new Object[] {"feed", new int[] {c}});
                next.add(new Object[] {"text", new int[0]});
                next.add(new Object[] {"force", new int[] {draw.nextInt(6)}});
            } else {
                Method m = face.get(draw.nextInt(face.size()));
                if (mood == 0 && m.getName().equals("aunt")) continue;
                int[] given = new int[m.getParameterCount()];
                for (int i = 0; i < given.length; i++) given[i] = argument(draw, m.getName(), i, given);
                next.add(new Object[] {m.getName(), given});
            }
            for (Object[] call : next) {
                if (left-- <= 0) break;
                int[] given = (int[]) call[1];
                long got = Due.ask(x, (String) call[0], given);
                long want = Due.ask(model, (String) call[0], given);
                calls++;
                told.add(call[0] + Arrays.toString(given) + " " + want);
                if (got != want) {
                    System.out.println("run " + run + ":");
                    told.forEach(System.out::println);
                    System.out.println("ModelTest: the last answered " + got);
                    return false;
                }
            }
        }
        return true;
    }

    /** How far an argument goes that is no odd one, by call and place. */
    private static int argument(Random draw, String name, int i, int[] given) {
        if (draw.nextInt(60) == 0) return ODD[draw.nextInt(ODD.length)];
        if (draw.nextInt(30) == 0) return draw.nextInt(12) - 3;
        switch (name) {
            case "set":
                if (i == 0) return draw.nextInt(6);
                return i == 1 ? draw.nextInt(5) : draw.nextInt(new int[] {102, 1001, 11, 102, 65, 3}[Math.max(0, Math.min(5, given[0]))]);
            case "aunt": return draw.nextInt(new int[] {6, 10, 64}[i]);
            case "told": return draw.nextInt(i == 0 ? 5 : 8);
            case "feed": return letter(draw, "may joys cools heat; \n109-+*()<=");
            case "minute": return draw.nextInt(i == 0 ? 6 : 4);
            case "share": return draw.nextInt(6) - 1;
            case "hotter": return draw.nextInt(3) == 0 ? draw.nextInt(20000) - 10000 : draw.nextInt(900) - 100;
            case "tells": return i == 0 ? draw.nextInt(4) : draw.nextInt(3) == 0 ? draw.nextInt(2) : draw.nextInt(7) * 10 + draw.nextInt(5);
            case "film": return draw.nextInt(i == 0 ? 4 : 7);
            case "drawn": return draw.nextInt();
            case "chance": return i == 0 ? draw.nextInt() : i == 1 ? draw.nextInt(22) : draw.nextInt(2);
            case "count": return draw.nextInt(6);
            case "sheet": return i == 0 ? draw.nextInt(4) : i == 1 ? draw.nextInt(4) - 1 : draw.nextInt(2) == 0 ? draw.nextInt(7) : draw.nextInt(42) - 1;
            case "cell": return i == 0 ? draw.nextInt(4) : i == 1 ? draw.nextInt(9) : draw.nextInt(4) == 0 ? draw.nextInt() : draw.nextInt(80);
            case "copy": return i == 0 || i == 2 ? draw.nextInt(4) : i == 4 ? draw.nextInt(6) - 1 : draw.nextInt(6);
            case "aunts": return i == 0 ? draw.nextInt(4) : i == 1 ? draw.nextInt(3) : i == 2 ? draw.nextInt(8) : draw.nextInt(6);
            case "taken": return i == 0 ? draw.nextInt(5) : draw.nextInt(6);
            default: return draw.nextInt(6);
        }
    }

    // ---- texts that are drawn, now and then with a byte that is another's

    private static String letters(Random draw) {
        StringBuilder s = new StringBuilder();
        s.append("may ").append(e(draw, 3)).append(";joys ").append(e(draw, 4)).append(";cools ");
        s.append(draw.nextInt(2) == 0 ? "" + draw.nextInt(9) : e(draw, 2)).append(";");
        int spoilt = draw.nextInt(3) == 0 ? draw.nextInt(3) : 0;
        for (int k = 0; k < spoilt; k++) {
            int at = draw.nextInt(s.length());
            switch (draw.nextInt(4)) {
                case 0: s.deleteCharAt(at); break;
                case 1: s.insert(at, letter(draw, "() ;+-*<=09az\n@")); break;
                case 2: s.setCharAt(at, letter(draw, "() ;+-*<=09az\n@")); break;
                default: s.insert(at, new String[] {"not ", "-", "(", " or ", "heat", "12345"}[draw.nextInt(6)]); break;
            }
        }
        return s.length() > 160 ? s.substring(0, 160) : s.toString();
    }

    private static char letter(Random draw, String of) {
        return of.charAt(draw.nextInt(of.length()));
    }

    private static final String[] NAMES = {"heat", "thirst", "number", "shown", "minute", "cups"};

    private static String e(Random draw, int depth) {
        if (depth <= 0) return draw.nextBoolean() ? NAMES[draw.nextInt(6)] : "" + draw.nextInt(draw.nextInt(9) == 0 ? 10000 : 30);
        String a = e(draw, depth - 1 - draw.nextInt(2));
        switch (draw.nextInt(11)) {
            case 0: return a + " or " + e(draw, depth - 2);
            case 1: return a + " and " + e(draw, depth - 2);
            case 2: return "not " + a;
            case 3: return a + "<" + e(draw, depth - 2);
            case 4: return a + "=" + e(draw, depth - 2);
            case 5: return a + "+" + e(draw, depth - 2);
            case 6: return a + "-" + e(draw, depth - 2);
            case 7: return a + "*" + e(draw, depth - 2);
            case 8: return "-" + a;
            case 9: return "(" + a + ")";
            default: return a;
        }
    }
}
