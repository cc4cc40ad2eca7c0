import java.util.List;

/** Promises 29 to 37: grades, the game, droughts, images, what is counted. */
final class KeepCalls {
    private static final int NONE = HerbWaters.NONE;
    private static final int LEAST = Integer.MIN_VALUE;
    private static final int MOST = Integer.MAX_VALUE;

    private KeepCalls() { }

    static void run() {
        grade();
        loss();
        rest();
        drought();
        span();
        image();
        whatAnImageKeeps();
        restore();
        status();
        count();
    }

    private static void grade() {
        Sentences.of("Promise 29", "A grade (0 to 3) from now on: what it was.");
        Scene.range(0, 3, (x, grade) -> x.grade(0, grade));
        Scene.villages((x, v) -> x.grade(v, 0), (x, v) -> x.grade(v, 4));
        HerbWaters x = Check.town("village 0;village 0;");
        Check.opinion(x, 0, "put mint 5;");
        x.days(2);
        Check.due("10 so far", x.village(0, 1), 10);
        Check.due("it was 0", x.grade(0, 3), 0);
        Check.due("not taken yet", x.village(0, 1), 10);
        x.days(1);
        Check.due("from now on", x.village(0, 1), 12);
        Check.due("it was 3", x.grade(0, 1), 3);
        Check.due("it was 1", x.grade(0, 1), 1);
        Check.due("that of the other is its own", x.grade(1, 2), 0);
        Check.due("and stays", x.village(0, 8) * 10 + x.village(1, 8), 12);
    }

    private static void loss() {
        Sentences.of("Promise 30", "LOSS by so many DAYS on (1 to 30), c 0 to 99 (what 0); WISH (1).");
        Scene.range(1, 30, (x, days) -> x.loss(0, days, 1, 0));
        Scene.range(0, 99, (x, c) -> x.loss(0, 1, c, 0));
        Scene.range(1, 30, (x, days) -> x.loss(0, days, 1, 1));
        Scene.range(0, 99, (x, c) -> x.loss(0, 1, c, 1));
        Scene.range(0, 1, (x, what) -> x.loss(0, 1, 1, what));
        Scene.villages((x, v) -> x.loss(v, 1, 1, 0), (x, v) -> x.loss(v, 0, 100, 2));
        HerbWaters x = Check.town("village 0;village 0;channel 0 1 8;");
        Check.opinion(x, 0, "put mint 2 if day=29;put mint 1 if day=1;");
        x.grade(1, 1);
        Check.due("1 day, c 0", x.loss(1, 1, 0, 0), 0);
        Check.due("1 day, c 99", x.loss(1, 1, 99, 0), 99);
        Check.due("29 days, c 0", x.loss(1, 29, 0, 0), 0);
        Check.due("30 days, c 0", x.loss(1, 30, 0, 0), 1);
        Check.due("30 days, c 99", x.loss(1, 30, 99, 0), 99 * 30 + 1);
        // By grade 0 the cup of day 2 stays for all of the days, by 1 one of day 30 is left.
        Check.due("wish, 1 day", x.loss(1, 1, 0, 1), 0);
        Check.due("wish, 2 days", x.loss(1, 2, 0, 1), 1);
        Check.due("wish, 30 days", x.loss(1, 30, 0, 1), 2);
        Check.due("wish, 30 days, c 1", x.loss(1, 30, 1, 1), 0);
        Check.due("wish, c 99", x.loss(1, 30, 99, 1), 0);
    }

    private static void rest() {
        Sentences.of("Promise 31", "REST by so many DAYS on, c: 1, 0; grades are as they are then.");
        Scene.range(1, 30, (x, days) -> x.rest(days, 1));
        Scene.range(0, 99, (x, c) -> x.rest(1, c));
        HerbWaters x = Check.town("village 0;village 0;channel 0 1 8;");
        Check.opinion(x, 0, "put mint 2;");
        Check.due("by 1 day nothing comes", x.rest(1, 0) * 10 + x.village(1, 8), 10);
        Check.due("by 2 days", x.rest(2, 0) * 10 + x.village(1, 8), 12);
        Check.due("grades are as they are then: taken", x.ahead(1, 5, 1), 0);
        Check.due("by 30 days, c 99: too dear", x.rest(30, 99) * 10 + x.village(1, 8), 10);
        Check.due("by 30 days, c 0", x.rest(30, 0) * 10 + x.village(1, 8), 12);
        Check.due("no day went by", x.told(4), 0);
        HerbWaters y = Check.town("village 0;village 0;channel 0 1 6;channel 1 0 6;");
        Check.opinion(y, 1, "put rue 3;");
        // Grades go 0 0, 0 1, 2 0, 0 1.
        Check.due("it does not rest", y.rest(4, 1), 0);
        Check.due("grades are as they are then", y.village(0, 8) * 10 + y.village(1, 8), 1);
    }

    private static void drought() {
        Sentences.of("Promise 32", "DROUGHT by a SEED, Q: VIEW so many DAYS on (1 to 60; what 0), water that came to the TOWN in"
                + " all of these DAYS (1).");
        Scene.range(1, 60, (x, days) -> x.drought(1, 8, days, 0));
        Scene.range(0, 16, (x, q) -> x.drought(1, q, 1, 0));
        Scene.range(0, 1, (x, what) -> x.drought(1, 8, 1, what));
        for (int seed : new int[] {LEAST, -1, 0, MOST}) {
            Scene.taken("seed " + seed, x -> x.drought(seed, 8, 60, 1));
        }
        HerbWaters x = Check.town("village 16;spring 0 5;tap 0 8;");
        Check.opinion(x, 0, "put mint 1 if water>0;put rue 1 if day=59;");
        Check.due("1 day: what was there", x.drought(1, 16, 1, 1), 16);
        Check.due("60 days without a spring", x.drought(1, 16, 60, 1), 16);
        Check.due("60 days with it", x.drought(1, 0, 60, 1), 16 + 59 * 5);
        Check.due("view of day 60 without", x.drought(1, 16, 60, 0), 2);
        Check.due("view of day 60 with it", x.drought(1, 0, 60, 0), 3);
        Check.due("view of day 59 without", x.drought(1, 16, 59, 0), 0);
        x.days(1);
        Check.due("from now on: the 16 came already", x.drought(1, 16, 60, 1), 5);
    }

    private static void span() {
        Sentences.of("Promise 33", "SPAN: 0 by how many SEEDS it is CLEAR so many DAYS on, 1 the least, 2 the most water in all"
                + " of these DAYS.");
        Scene.range(1, 30, (x, many) -> x.span(1, many, 8, 1, 0));
        Scene.range(0, 16, (x, q) -> x.span(1, 1, q, 1, 0));
        Scene.range(1, 60, (x, days) -> x.span(1, 1, 8, days, 0));
        Scene.range(0, 2, (x, what) -> x.span(1, 1, 8, 1, what));
        for (int seed : new int[] {LEAST, -1, 0, MOST}) {
            Scene.taken("seed " + seed, x -> x.span(seed, 30, 8, 60, 1));
        }
        HerbWaters x = Check.town("village 16;spring 0 5;tap 0 8;");
        Check.opinion(x, 0, "put mint 1 if water>0;");
        Check.due("all are clear", x.span(7, 30, 16, 2, 0), 30);
        Check.due("none is", x.span(7, 30, 0, 2, 0), 0);
        Check.due("the least without a spring", x.span(7, 30, 16, 60, 1), 16);
        Check.due("the most without a spring", x.span(7, 30, 16, 60, 2), 16);
        Check.due("the least with it", x.span(7, 30, 0, 60, 1), 16 + 59 * 5);
        Check.due("the most with it", x.span(7, 30, 0, 60, 2), 16 + 59 * 5);
        HerbWaters none = Check.town("village 16;spring 0 5;");
        Check.due("without a tap the least is 0", none.span(7, 30, 8, 60, 1), 0);
        Check.due("without a tap the most is 0", none.span(7, 30, 8, 60, 2), 0);
        for (int seed : new int[] {MOST, LEAST, 3}) {
            int water = x.drought(seed, 8, 60, 1);
            Check.due("of one seed " + seed, x.span(seed, 1, 8, 60, 1), water);
            Check.due("the most of one seed " + seed, x.span(seed, 1, 8, 60, 2), water);
            int next = x.drought(seed + 1, 8, 60, 1);
            Check.due("of two seeds from " + seed, x.span(seed, 2, 8, 60, 1), Math.min(water, next));
            Check.due("the most of two seeds from " + seed, x.span(seed, 2, 8, 60, 2), Math.max(water, next));
        }
    }

    private static void image() {
        Sentences.of("Promise 34", "how many there are; -1: there are 3.");
        HerbWaters x = Check.town("village 0;");
        for (int i = 1; i <= 3; i++) {
            x.days(1);
            Check.due("image " + i, x.image(), i);
        }
        x.days(1);
        Check.due("there are 3", x.image(), -1);
        Check.due("there are 3 still", x.image() * 10 + x.count(0), -7);
        Check.due("it is not counted as refused", x.status(0) + x.status(1), 0);
        x.restore();
        Check.due("the third is of day 3", x.told(4), 3);
        x.days(9);
        Check.due("a third again", x.image(), 3);
        for (int day : new int[] {12, 2, 1}) {
            x.restore();
            Check.due("the latest first", x.told(4), day);
        }
        Check.due("there is room again", x.image(), 1);
    }

    private static void whatAnImageKeeps() {
        Sentences.of("Promise 34", "An IMAGE of DAYS gone by (all that was put, came, went), PLEASED, CONTRARY, grades (not of"
                + " OPINIONS, the BOOK)");
        HerbWaters x = Scene.make();
        x.restore();
        x.restore();
        Check.due("an image is taken", x.image(), 1);
        HerbWaters y = Scene.make();
        y.restore();
        y.restore();
        List<Integer> due = Scene.picture(y);
        x.please(1);
        x.contrary(5);
        x.grade(0, 3);
        x.grade(1, 0);
        x.days(9);
        Check.due("restored", x.restore(), 0);
        List<Integer> got = Scene.picture(x);
        for (int i = 0; i < due.size(); i++) {
            if (!due.get(i).equals(got.get(i))) {
                Check.due("answer " + i + " of the picture", got.get(i), due.get(i));
            }
        }
        Check.due("pleased", x.told(5), 4);
        Check.due("contrary", x.told(6), 2);
        Check.due("grades", x.village(0, 8) * 10 + x.village(1, 8), 1);
        x.image();
        x.opinion(0, 0);
        x.book(0);
        x.restore();
        Check.due("not of opinions", x.thinks(0, 0, 99, 0, 0, 0, 0), 0);
        Check.due("not of the book", x.told(7), 0);
    }

    private static void restore() {
        Sentences.of("Promise 35", "All is as in the latest IMAGE, which is gone: how many are left; -1: there is none.");
        HerbWaters x = Check.town("village 0;");
        Check.opinion(x, 0, "put mint 1;");
        x.days(2);
        Check.due("there is none", x.restore(), -1);
        Check.due("nothing changed", x.told(4) * 100 + x.sums(0) * 10 + x.count(2), 222);
        Check.due("it is not counted as refused", x.status(0) + x.status(1), 0);
        for (int i = 0; i < 3; i++) {
            x.image();
            x.days(1);
        }
        for (int left = 2; left >= 0; left--) {
            Check.due("left", x.restore(), left);
            Check.due("counted", x.count(0), left);
            Check.due("as in the latest", x.told(4) * 10 + x.put(0, 0), (2 + left) * 11);
        }
        Check.due("there is none left", x.restore(), -1);
        Check.due("it is as it was", x.told(4) * 10 + x.put(0, 0), 22);
        x.image();
        x.undo(99);
        x.days(5);
        x.undo(5);
        Check.due("behind undo", x.restore() * 100 + x.told(4), 2);
        x.image();
        Check.town(x, "village 1;");
        Check.due("a town has none", x.restore(), -1);
    }

    private static void status() {
        Sentences.of("Promise 36", "How many calls were refused: 0 NoSuchElementException, 1 IllegalArgumentException; NONE for"
                + " others.");
        HerbWaters x = Check.town("village 0;");
        Check.due("none", x.status(0) * 10 + x.status(1), 0);
        for (int i = 1; i <= 3; i++) {
            Check.missing("refused", () -> x.village(1, 9));
            Check.due("missing " + i, x.status(0), i);
            Check.due("not as improper, " + i, x.status(1), i - 1);
            Check.improper("refused", () -> x.village(0, 9));
            Check.due("improper " + i, x.status(1), i);
            Check.due("not as missing, " + i, x.status(0), i);
        }
        for (int what : new int[] {-1, 2, LEAST, MOST}) {
            Check.due("others, " + what, x.status(what), NONE);
        }
        Check.due("others are not counted", x.status(0) * 10 + x.status(1), 33);
        Check.improper("all numbers wrong, counted once", () -> x.span(0, 0, -1, 0, 9));
        Check.due("once", x.status(1), 4);
        Check.town(x, "village 0;village 0;");
        Check.due("a town keeps it", x.status(0) * 10 + x.status(1), 34);
        Sentences.of("Promise 36", "(No IMAGE keeps it.)");
        x.image();
        Check.missing("refused behind the image", () -> x.village(2, 0));
        Check.improper("refused behind the image", () -> x.told(8));
        x.restore();
        Check.due("behind restore", x.status(0) * 10 + x.status(1), 45);
        x.days(1);
        Check.improper("refused on day 1", () -> x.told(8));
        x.undo(1);
        Check.due("behind undo", x.status(1), 6);
    }

    private static void count() {
        Sentences.of("Promise 37", "0 IMAGES, 1 bytes of the TAPE, 2 DAYS that can be undone; NONE for others.");
        HerbWaters x = Scene.make();
        int[] due = {2, Scene.TAPE, 14};
        for (int what = 0; what < 3; what++) {
            Check.due("what " + what, x.count(what), due[what]);
            Check.due("of a new object, what " + what, new HerbWaters().count(what), 0);
        }
        for (int what : new int[] {-1, 3, LEAST, MOST}) {
            Check.due("others, " + what, x.count(what), NONE);
        }
        Check.due("that is not refused", x.status(0) + x.status(1), 0);
        x.feed(0, 0, 0, 0, 0);
        x.image();
        x.undo(3);
        Check.due("one image more", x.count(0), 3);
        Check.due("20 bytes more", x.count(1), Scene.TAPE + 20);
        Check.due("3 days less", x.count(2), 11);
        HerbWaters full = new HerbWaters();
        Check.feed(full, " ".repeat(600));
        for (int i = 0; i < 11; i++) {
            full.days(99);
        }
        Check.due("a full tape", full.count(1), 600);
        Check.due("all days", full.count(2), 999);
    }
}
