import java.util.ArrayList;
import java.util.List;
import java.util.NoSuchElementException;

/**
 * A town in the midst of its days, with all that a call could change: days to undo, images, a book, a fault, a tape.
 * Of what a call changed, the scene is compared with one on which the call was not made. Each object stays below its
 * 512 calls.
 */
final class Scene {
    static final int VILLAGES = 3;
    static final int TAPE = 160;
    static final int LEAST = Integer.MIN_VALUE;
    static final int MOST = Integer.MAX_VALUE;
    private static final String NEXT_TOWN = "village 7;village 8;tap 1 3;";

    private Scene() { }

    interface Call {
        int answer(HerbWaters x);
    }

    interface NumberCall {
        int answer(HerbWaters x, int number);
    }

    static HerbWaters make() {
        HerbWaters x = Check.town("village 60;village 5;village 30;channel 0 1 3;channel 1 2 4;channel 2 0 1;leak 0 1;"
                + "leak 1 2;tap 2 4;spring 0 7;spring 2 3;lag 1 2;frog 2;filter 1 mint 1;filter 2 rue 2;feast 40;");
        Check.opinion(x, 0, "put mint 5 if water>9;put rue put/3;");
        Check.opinion(x, 1, "put rue water/4;put sage mint;");
        Check.opinion(x, 2, "put sage 9 if rue>sage or mint<3;put mint 4;");
        Check.book(x, "3 1;4 5;7 7;");
        x.contrary(2);
        x.grade(1, 1);
        x.please(4);
        x.days(6);
        x.image();
        x.days(3);
        x.image();
        x.days(5);
        Check.book(x, "1 9;");
        Check.feed(x, NEXT_TOWN + " ".repeat(TAPE - NEXT_TOWN.length()));
        return x;
    }

    /** All that can be asked about what is; refusals apart. */
    static List<Integer> picture(HerbWaters x) {
        List<Integer> all = new ArrayList<>();
        for (int what = 0; what < 8; what++) {
            all.add(x.told(what));
        }
        for (int what = 0; what < 5; what++) {
            all.add(x.tap(what));
            all.add(x.sums(what));
        }
        for (int v = 0; v < VILLAGES; v++) {
            for (int what = 0; what < 9; what++) {
                all.add(x.village(v, what));
                all.add(x.led(v, what % 3, what / 3));
            }
            for (int what = 0; what < 6; what++) {
                all.add(x.put(v, what));
            }
            for (int herb = 0; herb < 3; herb++) {
                all.add(x.thinks(v, herb, 40, 2, 7, 3, 9));
                all.add(x.ahead(v, 4, 1 + herb));
            }
        }
        all.add(x.minds(0));
        all.add(x.right());
        all.add(x.count(0));
        all.add(x.count(2));
        return all;
    }

    /** What is, and what comes when days are undone and images are restored. */
    private static List<Integer> townAndDays(HerbWaters x) {
        List<Integer> all = picture(x);
        all.add(x.undo(4));
        all.addAll(picture(x));
        all.add(x.restore());
        all.addAll(picture(x));
        all.add(x.restore());
        all.add(x.told(4));
        return all;
    }

    /** The latest text's fault, and what stands on the tape. */
    private static List<Integer> texts(HerbWaters x) {
        return List.of(x.fault(), x.count(1), x.town(x.count(1)), x.told(2));
    }

    private static void alike(String label, List<Integer> got, List<Integer> due) {
        for (int i = 0; i < due.size(); i++) {
            if (!due.get(i).equals(got.get(i))) {
                Check.due(label + ", answer " + i + " behind it", got.get(i), due.get(i));
                return;
            }
        }
        Check.due(label, true);
    }

    /** A call that is to change nothing at all, refused or not. */
    private static void changesNothing(String label, HerbWaters called) {
        HerbWaters other = make();
        alike(label + " changes nothing", townAndDays(called), townAndDays(other));
        alike(label + " leaves the tape and the fault", texts(called), texts(other));
    }

    /** A text with a fault is read from the tape, which is empty then; all else stays. */
    static void faulty(String label, int answer, int place, Call call) {
        HerbWaters x = make();
        Check.due(label, call.answer(x), answer);
        Check.due(label + ": the place", x.fault(), place);
        Check.due(label + ": the tape is empty", x.count(1), 0);
        Check.due(label + " is not counted as refused", x.status(0) + x.status(1), 0);
        alike(label + " changes nothing else", townAndDays(x), townAndDays(make()));
    }

    static int asked(String label, Call call) {
        HerbWaters x = make();
        int answer = call.answer(x);
        Check.due(label + " is not refused", x.status(0) + x.status(1), 0);
        changesNothing(label, x);
        return answer;
    }

    static void improper(String label, Call call) {
        HerbWaters x = make();
        Check.improper(label, () -> call.answer(x));
        Check.due(label + " is counted", x.status(1), 1);
        Check.due(label + " is counted as what it is", x.status(0), 0);
        changesNothing(label, x);
    }

    static void missing(String label, Call call) {
        HerbWaters x = make();
        Check.missing(label, () -> call.answer(x));
        Check.due(label + " is counted", x.status(0), 1);
        Check.due(label + " is counted as what it is", x.status(1), 0);
        changesNothing(label, x);
    }

    static void taken(String label, Call call) {
        HerbWaters x = make();
        try {
            call.answer(x);
        } catch (IllegalArgumentException | NoSuchElementException e) {
            Check.due(label + " is taken, but threw " + e, false);
        }
        Check.due(label + " is not counted as refused", x.status(0) + x.status(1), 0);
    }

    /** The last number that is taken and the first that is refused, at either end, and the farthest ones. */
    static void range(int least, int most, NumberCall call) {
        for (int number : new int[] {least, most}) {
            taken(number + "", x -> call.answer(x, number));
        }
        for (int number : new int[] {least - 1, most + 1, LEAST, MOST}) {
            improper(number + "", x -> call.answer(x, number));
        }
    }

    /** Villages 0 to 2 are there; of others it is refused ahead of all else that is wrong. */
    static void villages(NumberCall call, NumberCall wrongElsewhere) {
        for (int village : new int[] {0, VILLAGES - 1}) {
            taken("village " + village, x -> call.answer(x, village));
        }
        for (int village : new int[] {-1, VILLAGES, LEAST, MOST}) {
            missing("village " + village, x -> call.answer(x, village));
            missing("village " + village + " and others wrong", x -> wrongElsewhere.answer(x, village));
        }
    }
}
