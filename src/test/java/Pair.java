import java.lang.reflect.InvocationTargetException;
import java.lang.reflect.Method;
import java.util.ArrayList;
import java.util.Arrays;
import java.util.List;

/** HerbWaters and the model side by side: each call goes to both, and both must answer alike. */
final class Pair {
    private final HerbWaters real = new HerbWaters();
    private final Model model = new Model();
    final List<String> calls = new ArrayList<>();
    int wrong = 0;

    /** The answer, or that of an exception as a text. */
    String call(String name, int... args) {
        String got = answer(real, name, args);
        String due = answer(model, name, args);
        calls.add(name + Arrays.toString(args) + " -> " + got);
        if (!got.equals(due)) {
            wrong++;
            System.out.println("the model answers " + due + " at the end of:");
            for (String c : calls) {
                System.out.println("  " + c);
            }
        }
        return got;
    }

    int number(String name, int... args) {
        return Integer.parseInt(call(name, args));
    }

    private static String answer(Object o, String name, int[] args) {
        Class<?>[] kinds = new Class<?>[args.length];
        Object[] values = new Object[args.length];
        for (int i = 0; i < args.length; i++) {
            kinds[i] = int.class;
            values[i] = args[i];
        }
        try {
            Method m = o.getClass().getDeclaredMethod(name, kinds);
            return String.valueOf(m.invoke(o, values));
        } catch (InvocationTargetException e) {
            return e.getCause().getClass().getSimpleName();
        } catch (ReflectiveOperationException e) {
            throw new IllegalStateException(e);
        }
    }

    /** Feeds a text to the tape, which may hold bytes behind it then. */
    void feed(String text) {
        for (int at = 0; at < text.length(); at += 20) {
            int[] five = new int[5];
            for (int i = 0; i < 20; i++) {
                int b = at + i < text.length() ? text.charAt(at + i) & 255 : 0;
                five[i / 4] = five[i / 4] << 8 | b;
            }
            call("feed", five);
        }
    }

    String tell(String name, String text) {
        feed(text);
        calls.add("  text: " + text);
        String got = call(name, text.length());
        call("fault");
        return got;
    }

    String tellOpinion(int village, String text) {
        feed(text);
        calls.add("  text: " + text);
        String got = call("opinion", village, text.length());
        call("fault");
        return got;
    }
}
