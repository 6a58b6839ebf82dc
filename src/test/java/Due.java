import java.lang.reflect.InvocationTargetException;
import java.util.Arrays;

/** Counts the answers that are not the ones that are due, and tells of each. */
final class Due {
    private final String test;
    private int asked;
    private int wrong;

    Due(String test) {
        this.test = test;
    }

    void due(String call, long got, long want) {
        asked++;
        if (got != want) {
            wrong++;
            System.out.println(test + ": " + call + " answered " + got + ", due is " + want);
        }
    }

    void isTrue(String what, boolean holds) {
        due(what, holds ? 1 : 0, 1);
    }

    void end() {
        System.out.println(test + ": " + asked + " asked, " + wrong + " wrong");
        if (wrong != 0 || asked == 0) {
            System.exit(1);
        }
    }

    /** Feeds all letters of a text; what text() answers is the caller's to ask. */
    static void feed(TepidByTreaty x, String letters) {
        for (int i = 0; i < letters.length(); i++) {
            x.feed(letters.charAt(i));
        }
    }

    static int text(TepidByTreaty x, String letters) {
        feed(x, letters);
        return x.text();
    }

    /** A new object whose rule is this text. */
    static TepidByTreaty ruled(String letters) {
        TepidByTreaty x = new TepidByTreaty();
        int text = text(x, letters);
        if (text != 1 || x.force(text) != 0) {
            throw new IllegalStateException("no text: " + letters + " answered " + text);
        }
        return x;
    }

    /** A sheet becomes a row of ints with these values. */
    static void row(TepidByTreaty x, int sheet, int... values) {
        x.sheet(sheet, 2, values.length);
        for (int i = 0; i < values.length; i++) {
            x.cell(sheet, i, values[i]);
        }
    }

    /** Asks a call by its name: so a test can hold a whole table of calls. */
    static long ask(Object of, String name, int... given) {
        Class<?>[] types = new Class<?>[given.length];
        Arrays.fill(types, int.class);
        Object[] boxed = Arrays.stream(given).boxed().toArray();
        try {
            return ((Number) of.getClass().getDeclaredMethod(name, types).invoke(of, boxed)).longValue();
        } catch (InvocationTargetException e) {
            throw new IllegalStateException(named(name, given) + " threw", e.getCause());
        } catch (ReflectiveOperationException e) {
            throw new IllegalStateException("no call: " + named(name, given), e);
        }
    }

    static String named(String name, int... given) {
        String list = Arrays.toString(given);
        return name + "(" + list.substring(1, list.length() - 1) + ")";
    }
}
