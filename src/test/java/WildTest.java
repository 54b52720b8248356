import java.lang.reflect.InvocationTargetException;
import java.lang.reflect.Method;
import java.util.Arrays;
import java.util.List;
import java.util.Random;

/** Any numbers in any state: no call throws, and the same calls always give the same answers. */
public final class WildTest {
    private static final int RUNS = 400, CALLS = 512;
    private static final int[] EDGES = {Integer.MIN_VALUE, Integer.MIN_VALUE + 1, -1000001, -129, -2, -1, 0, 1, 2, 5, 6,
        7, 8, 9, 10, 11, 12, 13, 20, 21, 24, 25, 39, 40, 41, 60, 61, 99, 100, 127, 128, 255, 256, 999, 1000, 32768,
        65536, 999999, 1000000, Integer.MAX_VALUE - 1, Integer.MAX_VALUE};
    private static final String TEXT = "c5,3;o3,4,2;m7,4,1;v5,1,1;f0,9,9;l9,20,60;v0,20,3;m4,2,8;";

    public static void main(String[] args) throws IllegalAccessException {
        List<Method> calls = Check.publicCalls();
        for (int run = 0; run < RUNS; run++) {
            Check.same("the same answers in run " + run, wildRun(run, calls), wildRun(run, calls));
        }
        Check.finish();
    }

    private static long wildRun(int run, List<Method> calls) throws IllegalAccessException {
        Random random = new Random(run);
        OathCoach x = run % 4 == 0 ? new OathCoach() : Check.coachOf(TEXT);
        int fed = run % 4 == 0 ? 0 : TEXT.length() + 1;
        long sum = 0;
        for (int c = fed; c < CALLS; c++) {
            Method m = calls.get(random.nextInt(calls.size()));
            Object[] numbers = new Object[m.getParameterCount()];
            for (int i = 0; i < numbers.length; i++) {
                numbers[i] = random.nextInt(3) == 0 ? EDGES[random.nextInt(EDGES.length)] : random.nextInt(8);
            }
            try {
                sum = sum * 31 + ((Number) m.invoke(x, numbers)).longValue();
            } catch (InvocationTargetException thrown) {
                Check.same(m.getName() + Arrays.toString(numbers) + " threw " + thrown.getCause(), 1, 0);
            }
        }
        return sum;
    }
}
