import java.lang.reflect.Method;
import java.util.Arrays;
import java.util.List;
import java.util.Random;

/** Runs of calls by a seeded draw, each answer held against PlainCoach. */
public final class ModelTest {
    private static final int RUNS = 250, CALLS = 512;
    private static final String SORTS = "omlfv";
    private static final String BYTES = "cccomlfv0123456789,,,;;; xA";

    private final Random random;
    private final OathCoach x = new OathCoach();
    private final PlainCoach y = new PlainCoach();
    private int left = CALLS;
    private boolean fits = true;

    private ModelTest(int seed) {
        random = new Random(seed);
    }

    public static void main(String[] args) throws ReflectiveOperationException {
        List<Method> calls = Check.publicCalls();
        for (int run = 0; run < RUNS; run++) {
            new ModelTest(run).run(run, calls);
        }
        Check.finish();
    }

    private void run(int run, List<Method> calls) throws ReflectiveOperationException {
        while (left > 0 && fits) {
            int chance = random.nextInt(100);
            if (chance < 2 || left == CALLS && chance < 90) {
                tell(run, text());
            } else if (chance < 6) {
                tellWhereItGoes(run);
            } else {
                Method m = calls.get(random.nextInt(calls.size()));
                call(run, m.getName(), numbersFor(m));
            }
        }
    }

    private Integer call(int run, String name, int... numbers) throws ReflectiveOperationException {
        if (left == 0 || !fits) {
            return null;
        }
        left--;
        Class<?>[] types = new Class<?>[numbers.length];
        Arrays.fill(types, int.class);
        Object[] boxed = Arrays.stream(numbers).boxed().toArray();
        Number got = (Number) OathCoach.class.getMethod(name, types).invoke(x, boxed);
        Number want = (Number) PlainCoach.class.getDeclaredMethod(name, types).invoke(y, boxed);
        fits = got.longValue() == want.longValue();
        Check.same("run " + run + ": " + name + Arrays.toString(numbers), got.longValue(), want.longValue());
        return got.intValue();
    }

    private void tell(int run, String text) throws ReflectiveOperationException {
        for (int i = 0; i < text.length(); i++) {
            call(run, "feed", text.charAt(i));
        }
        call(run, "route");
        call(run, "fault");
    }

    private String text() {
        StringBuilder text = new StringBuilder();
        text.append('c').append(random.nextInt(10)).append(',').append(random.nextInt(10)).append(';');
        int oaths = random.nextInt(12) == 0 ? 8 : 1 + random.nextInt(7);
        for (int k = 0; k < oaths; k++) {
            text.append(SORTS.charAt(random.nextInt(5))).append(random.nextInt(10)).append(',')
                .append(1 + random.nextInt(random.nextBoolean() ? 5 : 20)).append(',')
                .append(1 + random.nextInt(random.nextBoolean() ? 9 : 60)).append(';');
        }
        if (random.nextInt(4) == 0) {
            int at = random.nextInt(text.length());
            char other = BYTES.charAt(random.nextInt(BYTES.length()));
            switch (random.nextInt(4)) {
                case 0 -> text.setCharAt(at, other);
                case 1 -> text.insert(at, other);
                case 2 -> text.deleteCharAt(at);
                default -> text.setLength(at);
            }
        }
        return text.toString();
    }

    /** A row that tells where the coach goes, or would if something were else, so that some of it fits. */
    private void tellWhereItGoes(int run) throws ReflectiveOperationException {
        int row = random.nextInt(8);
        int n = 1 + random.nextInt(12);
        int changed = random.nextInt(3);
        int oath = random.nextInt(7);
        boolean acted = changed == 1 && oneAct(run, "buy", oath)
            || changed == 2 && oneAct(run, "swear", oath, random.nextInt(10), 1 + random.nextInt(20));
        call(run, "row", row, random.nextInt(3), n);
        for (int i = 0; i < n; i++) {
            Integer where = call(run, "ahead", i + 1);
            call(run, "set", row, i, where == null || random.nextInt(40) == 0 ? random.nextInt(12) : where);
        }
        if (acted) {
            call(run, "undo");
        }
        int some = 1 + random.nextInt(n);
        call(run, "broke", row, 0, some);
        call(run, "sworn", oath, row, 0, some);
        call(run, "who", oath, row, 0, some);
    }

    private boolean oneAct(int run, String name, int... numbers) throws ReflectiveOperationException {
        Integer answer = call(run, name, numbers);
        return answer != null && answer >= 0;
    }

    private int[] numbersFor(Method m) {
        int[] numbers = new int[m.getParameterCount()];
        for (int i = 0; i < numbers.length; i++) {
            int chance = random.nextInt(60);
            numbers[i] = chance == 0 ? random.nextInt() : chance == 1 ? -1 : smallNumber(m.getName(), i);
        }
        return numbers;
    }

    private int smallNumber(String name, int i) {
        switch (name) {
            case "row":
                return random.nextInt(new int[] {9, 3, 14}[i]);
            case "set":
                return i == 2 ? random.nextInt() >> random.nextInt(30) : random.nextInt(10);
            case "feed":
                return BYTES.charAt(random.nextInt(BYTES.length()));
            case "hours":
                return random.nextInt(random.nextInt(4) == 0 ? 26 : 5);
            case "ahead", "visits", "holds":
                return random.nextInt(62);
            case "comesTo":
                return random.nextInt(i == 0 ? 7 : 62);
            case "least":
                return i == 0 ? random.nextInt(7) : random.nextInt(i == 1 ? 10 : 26);
            case "swear":
                return i == 0 ? random.nextInt(7) : random.nextInt(i == 1 ? 10 : 22);
            case "buyOff":
                return random.nextInt(new int[] {10, 26, 2}[i]);
            case "lies":
                return random.nextInt(new int[] {10, 11, 2}[i]);
            case "drawn":
                return random.nextInt(new int[] {62, 1000001, 2}[i]);
            case "order":
                return random.nextInt(random.nextBoolean() ? 5 : 70);
            case "snow":
                return random.nextInt(i == 0 ? 10 : 2);
            case "trace":
                return random.nextInt(8);
            default:
                return random.nextInt(7);
        }
    }
}
