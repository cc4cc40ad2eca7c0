import java.lang.reflect.Method;
import java.lang.reflect.Modifier;
import java.util.ArrayList;
import java.util.List;
import java.util.TreeSet;

/** The face, and promises 1 to 6: what is fed and told. */
final class TextCalls {
    private static final int NONE = HerbWaters.NONE;
    private static final int LEAST = Integer.MIN_VALUE;
    private static final int MOST = Integer.MAX_VALUE;

    private TextCalls() { }

    static void run() {
        face();
        newObject();
        feed();
        feedFull();
        town();
        nothingIsLeft();
        townFault();
        townRefused();
        opinion();
        opinionRefused();
        book();
        fault();
    }

    private static void face() {
        Sentences.of("The public face", "public static final int NONE = -1;");
        Check.due("NONE", HerbWaters.NONE, -1);
        for (Method m : HerbWaters.class.getDeclaredMethods()) {
            if (Modifier.isPublic(m.getModifiers())) {
                Sentences.of("The public face", faceOf(m));
                Check.due("it answers a number", m.getReturnType() == int.class);
            }
        }
    }

    /** A method's name and exceptions as the document writes them. */
    private static String faceOf(Method m) {
        TreeSet<String> names = new TreeSet<>(java.util.Comparator.reverseOrder());
        for (Class<?> thrown : m.getExceptionTypes()) {
            names.add(thrown.getSimpleName());
        }
        String ahead = Sentences.upTo("The public face", "int " + m.getName() + "(", ")");
        Check.due(m.getName() + " has its parameters", ahead.split("int ").length - 2, m.getParameterCount());
        return ahead + (names.isEmpty() ? "" : " throws " + String.join(", ", names)) + ";";
    }

    private static void newObject() {
        Sentences.of("Promise 1", "A TOWN without CLAUSES.");
        HerbWaters x = new HerbWaters();
        HerbWaters told = new HerbWaters();
        Check.due("an empty text has no villages", told.town(0), 0);
        for (HerbWaters each : new HerbWaters[] {x, told}) {
            int[] due = {0, 0, NONE, 20, 0, 0, 0, 0};
            for (int what = 0; what < 8; what++) {
                Check.due("told " + what, each.told(what), due[what]);
            }
            for (int what = 0; what < 5; what++) {
                Check.due("tap " + what, each.tap(what), 0);
                Check.due("sums " + what, each.sums(what), 0);
            }
            for (int what = 0; what < 3; what++) {
                Check.due("count " + what, each.count(what), 0);
            }
            Check.due("fault", each.fault(), NONE);
            Check.due("refused", each.status(0) + each.status(1), 0);
            Check.missing("no village 0", () -> each.village(0, 0));
            Check.improper("no bits of villages", () -> each.please(1));
            Check.due("bits of nobody", each.please(0), 0);
        }
    }

    private static void feed() {
        Sentences.of("Promise 2", "Twenty bytes come on the TAPE, of each number the highest first: how many there are;");
        HerbWaters x = new HerbWaters();
        // "village 42;village 3", then "9;   ..."
        Check.due("20", x.feed(0x76696c6c, 0x61676520, 0x34323b76, 0x696c6c61, 0x67652033), 20);
        Check.due("40", x.feed(0x393b2020, 0x20202020, 0x20202020, 0x20202020, 0x20202020), 40);
        Check.due("counted", x.count(1), 40);
        Check.due("told", x.town(40), 2);
        Check.due("the first", x.village(0, 0), 42);
        Check.due("the second, behind what there was", x.village(1, 0), 39);
        Check.due("20 again, when it is empty", x.feed(LEAST, MOST, -1, 0, 1), 20);
        // Each byte of the twenty that can't stand there is found in its place.
        for (int place = 0; place < 20; place++) {
            for (int sign : new int[] {0, 127, 128, 255}) {
                int[] five = {0x20202020, 0x20202020, 0x20202020, 0x20202020, 0x20202020};
                int shift = 24 - place % 4 * 8;
                five[place / 4] = five[place / 4] & ~(255 << shift) | sign << shift;
                HerbWaters y = new HerbWaters();
                y.feed(five[0], five[1], five[2], five[3], five[4]);
                Check.due("sign " + sign + " at " + place, y.town(20), -9);
                Check.due("place of sign " + sign, y.fault(), place);
            }
        }
    }

    private static void feedFull() {
        Sentences.of("Promise 2", "NONE, doing nothing, if there would be more than 600.");
        HerbWaters x = new HerbWaters();
        String text = "village 1;" + " ".repeat(580) + "village 2;";
        Check.feed(x, text.substring(0, 580));
        Check.due("580", x.count(1), 580);
        Check.due("600", x.feed(0x20202020, 0x20202020, 0x20207669, 0x6c6c6167, 0x6520323b), 600);
        for (int i = 0; i < 3; i++) {
            Check.due("620 would be too many", x.feed(0x21212121, 0x21212121, 0x21212121, 0x21212121, 0x21212121), NONE);
            Check.due("doing nothing", x.count(1), 600);
        }
        Check.due("it is not counted as refused", x.status(0) + x.status(1), 0);
        Check.due("all 600 are as they were", x.town(600), 2);
        Check.due("the last of them", x.village(1, 0), 2);
        Check.due("empty then", x.feed(0, 0, 0, 0, 0), 20);
    }

    private static void town() {
        Sentences.of("Promise 3", "The first n bytes of the TAPE (empty then) are the TOWN (DAY 0; no OPINIONS, BOOK, IMAGES;"
                + " nobody PLEASED or CONTRARY; grades 0): how many VILLAGES;");
        HerbWaters x = Scene.make();
        Check.due("the first 10 of 160 bytes", x.town(10), 1);
        Check.due("the tape is empty", x.count(1), 0);
        int[] due = {1, 0, NONE, 20, 0, 0, 0, 0};
        for (int what = 0; what < 8; what++) {
            Check.due("told " + what, x.told(what), due[what]);
        }
        Check.due("no images", x.count(0), 0);
        Check.due("none to restore", x.restore(), -1);
        Check.due("no day to undo", x.undo(99), 0);
        Check.due("no grade", x.village(0, 8), 0);
        Check.due("no opinion", x.thinks(0, 0, 99, 9, 9, 9, 9), 0);
        for (int what = 0; what < 5; what++) {
            Check.due("tap " + what, x.tap(what), 0);
            Check.due("sums " + what, x.sums(what), 0);
        }
        HerbWaters same = Scene.make();
        String text = "village 1;village 2;village 3;tap 0 8;";
        same.town(0);
        Check.due("three villages", Check.town(same, text), 3);
        for (int v = 0; v < 3; v++) {
            Check.due("no opinion of " + v, same.thinks(v, v, 99, 9, 9, 9, 9), 0);
            Check.due("no grade of " + v, same.village(v, 8), 0);
        }
        HerbWaters empty = Scene.make();
        Check.due("n 0", empty.town(0), 0);
        Check.due("n 0: the tape is empty", empty.count(1), 0);
        Check.due("n 0: no villages", empty.told(0), 0);
        HerbWaters whole = Scene.make();
        Check.due("all of the tape", whole.town(Scene.TAPE), 2);
    }

    /** All that can be asked of a town of two villages, with opinions that look at all there is, as it goes on. */
    private static List<Integer> course(HerbWaters x) {
        List<Integer> all = new ArrayList<>();
        for (int v = 0; v < 2; v++) {
            Check.opinion(x, v, "put mint put+1;put rue spring+1;put sage water;");
        }
        for (int what = 0; what < 8; what++) {
            all.add(x.told(what));
        }
        for (int i = 0; i < 9; i++) {
            for (int v = 0; v < 2; v++) {
                for (int what = 0; what < 9; what++) {
                    all.add(x.village(v, what));
                }
            }
            for (int what = 0; what < 5; what++) {
                all.add(x.tap(what));
                all.add(x.sums(what));
            }
            x.days(1);
        }
        all.add(x.minds(0));
        all.add(x.round(0));
        return all;
    }

    private static void nothingIsLeft() {
        Sentences.of("Promise 3", "are the TOWN (DAY 0; no OPINIONS, BOOK, IMAGES;");
        String rich = "village 50;village 40;channel 0 1 3;channel 1 0 3;leak 0 2;leak 1 1;tap 1 4;spring 0 9;spring 1 8;"
                + "lag 0 5;lag 1 4;frog 0;frog 1;filter 0 mint 3;filter 1 rue 4;filter 1 sage 2;feast 7;";
        String plain = "village 5;village 6;";
        List<Integer> due = course(Check.town(plain));
        // A town may be read into what another one was read into: so towns follow one another in several ways.
        String[][] ways = {{rich}, {rich, plain}, {rich, rich}, {rich + "x"}, {rich + "x", plain}, {plain, rich + "x"}};
        for (String[] way : ways) {
            HerbWaters x = new HerbWaters();
            for (String text : way) {
                Check.town(x, text);
                x.days(7);
                x.please(x.told(0) > 0 ? 1 : 0);
            }
            if (x.told(0) > 0) {
                course(x);
                Check.book(x, "99 7;");
            }
            Check.due("the plain town", Check.town(x, plain), 2);
            Check.due("nothing is left behind " + way.length + " towns: " + way[0], course(x).equals(due));
        }
    }

    private static void townFault() {
        Sentences.of("Promise 3", "or the FAULT less 10 (all stays).");
        Scene.faulty("kind 1", -9, 9, x -> x.town(9));
        Scene.faulty("kind 1, at its first byte", -9, 0, x -> x.town(1));
        for (String text : new String[] {"village 100;", "village 1;".repeat(9) + "village 1;", "village 1;tap 0 1;tap 0 1;"}) {
            int kind = text.contains("100") ? 2 : text.contains("tap") ? 4 : 3;
            int place = kind == 2 ? 8 : kind == 4 ? 18 : 90;
            Scene.faulty("kind " + kind, kind - 10, place, x -> {
                x.book(0);
                Check.book(x, "3 1;4 5;7 7;");
                return Check.town(x, text);
            });
        }
    }

    private static void townRefused() {
        Sentences.of("Promise 3", "IllegalArgumentException: n is not 0 to the TAPE's bytes (it stays).");
        Scene.range(0, Scene.TAPE, (x, n) -> x.town(n));
        HerbWaters x = new HerbWaters();
        Check.improper("1 of an empty tape", () -> x.town(1));
        Check.improper("-1 of an empty tape", () -> x.town(-1));
        Check.due("0 of an empty tape", x.town(0), 0);
        Check.feed(x, " ".repeat(600));
        Check.improper("601 of a full tape", () -> x.town(601));
        Check.due("it stays", x.count(1), 600);
        Check.due("600 of a full tape", x.town(600), 0);
    }

    private static void opinion() {
        Sentences.of("Promise 4", "Likewise an OPINION of a VILLAGE (n to 150; DAYS gone by stay): how many PARTS.");
        Scene.range(0, 150, (x, n) -> x.opinion(0, n));
        Scene.faulty("a fault", -9, 0, x -> x.opinion(0, 9));
        HerbWaters x = Check.town("village 9;village 9;");
        Check.opinion(x, 0, "put mint 5;");
        Check.opinion(x, 1, "put rue 7;put sage 8;");
        Check.book(x, "1 0;");
        x.please(2);
        x.days(3);
        x.image();
        Check.feed(x, "put mint 1;put rue 2;");
        Check.improper("41 of 40 bytes", () -> x.opinion(0, 41));
        Check.due("the tape stays", x.count(1), 40);
        Check.due("it stays", x.thinks(0, 0, 0, 0, 0, 0, 0), 5);
        Check.due("the first 11 bytes", x.opinion(0, 11), 1);
        Check.due("the tape is empty", x.count(1), 0);
        Check.due("it is told", x.thinks(0, 0, 0, 0, 0, 0, 0), 1);
        Check.due("that of another stays", x.thinks(1, 1, 0, 0, 0, 0, 0) * 10 + x.thinks(1, 2, 0, 0, 0, 0, 0), 78);
        Check.due("days gone by stay", x.told(4) * 100 + x.put(0, 0), 315);
        Check.due("cups stay", x.village(0, 1), 15);
        Check.due("pleased stay", x.told(5), 2);
        Check.due("the book stays", x.told(7), 1);
        Check.due("images stay", x.count(0), 1);
        Check.due("n 0", x.opinion(0, 0), 0);
        Check.due("an empty one puts nothing", x.thinks(0, 0, 0, 0, 0, 0, 0), 0);
        Check.improper("1 of an empty tape", () -> x.opinion(0, 1));
    }

    private static void opinionRefused() {
        Sentences.of("Promise 4", "NoSuchElementException: no such VILLAGE (so below, ahead of others; the TAPE stays).");
        Scene.villages((x, v) -> x.opinion(v, 0), (x, v) -> x.opinion(v, 151));
        HerbWaters none = new HerbWaters();
        Check.missing("no villages", () -> none.opinion(0, 0));
        HerbWaters nine = Check.town("village 0;".repeat(9));
        Check.due("the ninth", nine.opinion(8, 0), 0);
        Check.missing("a tenth", () -> nine.opinion(9, 0));
    }

    private static void book() {
        Sentences.of("Promise 5", "Likewise the BOOK (n to 150): how many lines.");
        Scene.range(0, 150, (x, n) -> x.book(n));
        Scene.faulty("a fault", -9, 0, x -> x.book(9));
        HerbWaters x = Scene.make();
        x.opinion(0, 1);
        Check.feed(x, "3 1;44 0;");
        Check.improper("21 of 20 bytes", () -> x.book(21));
        Check.due("the tape stays", x.count(1), 20);
        Check.due("the book stays", x.told(7), 3);
        Check.due("the first 4 bytes", x.book(4), 1);
        Check.due("the tape is empty", x.count(1), 0);
        Check.due("one line", x.told(7), 1);
        Check.due("days to undo stay", x.count(2), 14);
        Check.due("days stay", x.told(4), 14);
        Check.due("images stay", x.count(0), 2);
        Check.due("n 0", x.book(0), 0);
        Check.due("no line", x.told(7), 0);
    }

    private static void fault() {
        Sentences.of("Promise 6", "The place of the FAULT of the latest text; NONE without.");
        HerbWaters x = new HerbWaters();
        Check.due("no text yet", x.fault(), NONE);
        Check.town(x, "village 100;");
        Check.due("of a town", x.fault(), 8);
        Check.due("asked again", x.fault(), 8);
        Check.improper("a refused call", () -> x.town(1));
        Check.missing("another refused call", () -> x.opinion(0, 0));
        Check.due("these are no text", x.fault(), 8);
        Check.town(x, "village 10;");
        Check.due("of a sound town", x.fault(), NONE);
        Check.opinion(x, 0, "put mint 1");
        Check.due("of an opinion, at its length", x.fault(), 10);
        Check.book(x, "1 0;");
        Check.due("of a sound book", x.fault(), NONE);
        Check.book(x, "0 0;");
        Check.due("of a book, at its first byte", x.fault(), 0);
        x.opinion(0, 0);
        Check.due("of an empty opinion", x.fault(), NONE);
        HerbWaters y = new HerbWaters();
        Check.town(y, " ".repeat(599) + "!");
        Check.due("the last of 600 bytes", y.fault(), 599);
        Check.town(y, "feast 1;" + " ".repeat(585) + "village");
        Check.due("at the length of 600", y.fault(), 600);
    }
}
