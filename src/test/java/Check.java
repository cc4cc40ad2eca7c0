import java.util.NoSuchElementException;

/** Counts what is not as due. */
final class Check {
    private static int checks = 0;
    private static int wrong = 0;
    private static String sentence = "";

    private Check() { }

    interface Call {
        int answer();
    }

    /** The checks from here on are of one sentence. */
    static void under(String words) {
        sentence = words.isEmpty() ? "" : words + ": ";
    }

    static int many() {
        return checks;
    }

    static void due(String what, int got, int want) {
        checks++;
        if (got != want) {
            wrong++;
            System.out.println(sentence + what + ": answered " + got + ", due is " + want);
        }
    }

    static void due(String what, boolean so) {
        due(what, so ? 1 : 0, 1);
    }

    /** The call must be refused for a number that is none such. */
    static void improper(String what, Call call) {
        refused(what, call, IllegalArgumentException.class);
    }

    /** The call must be refused for a village that is not there. */
    static void missing(String what, Call call) {
        refused(what, call, NoSuchElementException.class);
    }

    private static void refused(String what, Call call, Class<?> kind) {
        checks++;
        try {
            int got = call.answer();
            wrong++;
            System.out.println(sentence + what + ": answered " + got + ", due is " + kind.getSimpleName());
        } catch (RuntimeException e) {
            if (e.getClass() != kind) {
                wrong++;
                System.out.println(sentence + what + ": threw " + e + ", due is " + kind.getSimpleName());
            }
        }
    }

    static void feed(HerbWaters x, String text) {
        for (int at = 0; at < text.length(); at += 20) {
            int[] five = new int[5];
            for (int i = 0; i < 20; i++) {
                int b = at + i < text.length() ? text.charAt(at + i) & 255 : 0;
                five[i / 4] = five[i / 4] << 8 | b;
            }
            x.feed(five[0], five[1], five[2], five[3], five[4]);
        }
    }

    static int town(HerbWaters x, String text) {
        feed(x, text);
        return x.town(text.length());
    }

    static int opinion(HerbWaters x, int village, String text) {
        feed(x, text);
        return x.opinion(village, text.length());
    }

    static int book(HerbWaters x, String text) {
        feed(x, text);
        return x.book(text.length());
    }

    /** A town that is told without a fault. */
    static HerbWaters town(String text) {
        HerbWaters x = new HerbWaters();
        int villages = town(x, text);
        due("a sound town: " + text, villages >= 0);
        return x;
    }

    static void end(String name) {
        System.out.println(name + ": " + checks + " checks, " + wrong + " wrong");
        System.exit(wrong == 0 ? 0 : 1);
    }
}
