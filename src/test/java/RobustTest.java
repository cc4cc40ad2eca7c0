import java.lang.reflect.InvocationTargetException;
import java.lang.reflect.Method;
import java.util.Arrays;
import java.util.Random;

/** No call throws anything but what its line of the face says, whatever the numbers; and refusals are counted. */
public final class RobustTest {
    private static final int[] ODD = {Integer.MIN_VALUE, Integer.MAX_VALUE, -1, 0, 1, 2, 3, 4, 7, 8, 9, 16, 17, 30, 31,
        60, 61, 99, 100, 150, 151, 511, 512, 600, 601, 999, 1000, 9999, 10000};

    public static void main(String[] args) throws ReflectiveOperationException {
        Method[] face = HerbWaters.class.getDeclaredMethods();
        Method[] open = Arrays.stream(face).filter(m -> java.lang.reflect.Modifier.isPublic(m.getModifiers()))
                .sorted((a, b) -> a.getName().compareTo(b.getName())).toArray(Method[]::new);
        for (int seed = 1; seed <= 150; seed++) {
            run(open, new Random(seed));
        }
        Check.end("RobustTest");
    }

    private static void run(Method[] open, Random chance) throws ReflectiveOperationException {
        HerbWaters x = new HerbWaters();
        Texts texts = new Texts(chance);
        int villages = chance.nextInt(10);
        int missing = 0;
        int improper = 0;
        Check.town(x, texts.town(villages));
        for (int v = 0; v < villages; v++) {
            Check.opinion(x, v, texts.opinion(chance.nextBoolean()));
        }
        for (int i = 0; i < 400; i++) {
            Method m = open[chance.nextInt(open.length)];
            if (m.getName().equals("town") && chance.nextInt(20) > 0) {
                continue;
            }
            Object[] numbers = new Object[m.getParameterCount()];
            for (int k = 0; k < numbers.length; k++) {
                numbers[k] = chance.nextInt(3) == 0 ? ODD[chance.nextInt(ODD.length)] : chance.nextInt(6);
            }
            try {
                m.invoke(x, numbers);
            } catch (InvocationTargetException e) {
                Throwable thrown = e.getCause();
                Check.due(m.getName() + Arrays.toString(numbers) + " threw " + thrown,
                        Arrays.asList(m.getExceptionTypes()).contains(thrown.getClass())
                                && thrown.getStackTrace()[0].getClassName().equals("HerbWaters"));
                missing += thrown instanceof java.util.NoSuchElementException ? 1 : 0;
                improper += thrown instanceof IllegalArgumentException ? 1 : 0;
            }
        }
        Check.due("36: missing", x.status(0), missing);
        Check.due("36: improper", x.status(1), improper);
    }
}
