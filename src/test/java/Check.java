import java.lang.reflect.Method;
import java.util.ArrayList;
import java.util.Arrays;
import java.util.Comparator;
import java.util.List;

/** What the tests share: counting wrong answers, and telling a coach a text. */
final class Check {
    static final int NONE = -1000000, BAD = -1000001, STATE = -1000002, FULL = -1000003;
    static final int NULL = -1000011, PLACE = -1000012, KIND = -1000013, SIZE = -1000014, STORE = -1000015;

    private static int wrong = 0;

    private Check() {
    }

    static void same(String call, long got, long want) {
        if (got != want) {
            wrong++;
            if (wrong <= 40) {
                System.out.println(call + " answered " + got + ", due is " + want);
            }
        }
    }

    static void finish() {
        if (wrong != 0) {
            System.out.println(wrong + " answers are not as due");
            System.exit(1);
        }
    }

    static void feed(OathCoach x, String text) {
        for (int i = 0; i < text.length(); i++) {
            same("feed of byte " + i + " of " + text, x.feed(text.charAt(i)), i + 1);
        }
    }

    static int told(OathCoach x, String text) {
        feed(x, text);
        return x.route();
    }

    static OathCoach coachOf(String text) {
        OathCoach x = new OathCoach();
        int oaths = told(x, text);
        if (oaths < 1) {
            same("route of " + text, oaths, 1);
        }
        return x;
    }

    static void rowOf(OathCoach x, int row, int... items) {
        same("row", x.row(row, 0, items.length), items.length);
        for (int i = 0; i < items.length; i++) {
            same("set", x.set(row, i, items[i]), items[i]);
        }
    }

    /** Each line is a call and what is due: "hours 3 = 7", "drop MAX = BAD", "tell c0,0;o1,1,1; = 1". */
    static void says(OathCoach x, String... lines) {
        for (String line : lines) {
            String[] halves = line.split(" = ");
            same(line, call(x, halves[0]), number(halves[1]));
        }
    }

    static long call(OathCoach x, String line) {
        String[] words = line.split(" ");
        if (words[0].equals("tell")) {
            return told(x, words[1]);
        }
        Object[] numbers = new Object[words.length - 1];
        Class<?>[] types = new Class<?>[numbers.length];
        Arrays.fill(types, int.class);
        for (int i = 0; i < numbers.length; i++) {
            numbers[i] = number(words[i + 1]);
        }
        try {
            return ((Number) OathCoach.class.getMethod(words[0], types).invoke(x, numbers)).longValue();
        } catch (ReflectiveOperationException cannot) {
            throw new IllegalStateException(line, cannot);
        }
    }

    static int number(String word) {
        return switch (word) {
            case "NONE" -> NONE;
            case "BAD" -> BAD;
            case "STATE" -> STATE;
            case "FULL" -> FULL;
            case "NULL" -> NULL;
            case "PLACE" -> PLACE;
            case "KIND" -> KIND;
            case "SIZE" -> SIZE;
            case "STORE" -> STORE;
            case "MIN" -> Integer.MIN_VALUE;
            case "MAX" -> Integer.MAX_VALUE;
            default -> Integer.parseInt(word);
        };
    }

    /** In an order of their own, so that a seeded draw picks the same ones on every machine. */
    static List<Method> publicCalls() {
        List<Method> calls = new ArrayList<>();
        for (Method m : OathCoach.class.getMethods()) {
            if (m.getDeclaringClass() == OathCoach.class) {
                calls.add(m);
            }
        }
        calls.sort(Comparator.comparing(Method::getName));
        return calls;
    }
}
