/** Promises 7 to 15: what is, days that go by and are undone, what came and was put, what a village thinks. */
final class StateCalls {
    private static final int NONE = HerbWaters.NONE;

    private StateCalls() { }

    static void run() {
        told();
        village();
        led();
        days();
        undo();
        undoUpToWhat();
        tap();
        sums();
        put();
        thinks();
        thinksBounds();
    }

    private static void told() {
        Sentences.of("Promise 7", "0 VILLAGES, 1 channels, 2 the tap's VILLAGE (NONE), 3 the feast, 4 the DAY, 5 PLEASED, 6"
                + " CONTRARY (bits), 7 lines of the BOOK.");
        int[] due = {3, 3, 2, 40, 14, 4, 2, 3};
        HerbWaters x = Scene.make();
        for (int what = 0; what < 8; what++) {
            Check.due("what " + what, x.told(what), due[what]);
        }
        int[] none = {0, 0, NONE, 20, 0, 0, 0, 0};
        for (int what = 0; what < 8; what++) {
            Check.due("of a new object, what " + what, new HerbWaters().told(what), none[what]);
        }
        HerbWaters nine = Check.town("village 0;".repeat(9) + "tap 0 1;");
        nine.please(511);
        nine.contrary(511);
        Check.due("village 0 has the tap", nine.told(2), 0);
        Check.due("all nine", nine.told(0) * 1000 + nine.told(5), 9511);
        Check.due("all nine contrary", nine.told(6), 511);
        Check.book(nine, "1 1;".repeat(12));
        Check.due("twelve lines", nine.told(7), 12);
        Sentences.of("Promise 7", "IllegalArgumentException: another what (so below).");
        Scene.range(0, 7, (y, what) -> y.told(what));
    }

    private static void village() {
        Sentences.of("Promise 8", "Of a VILLAGE: 0 water in its basin, 1 to 3 a HERB in it, 4 its spring, 5 lag, 6 frog (1,"
                + " 0), 7 parts of 8 that stay, 8 grade.");
        HerbWaters x = Check.town("village 99;village 0;village 8;spring 0 99;lag 0 5;frog 0;channel 0 1 2;leak 0 1;tap 0 1;"
                + "channel 1 1 8;");
        Check.opinion(x, 0, "put mint 4;put rue 8;put sage 198;");
        x.grade(0, 3);
        int[] first = {99, 0, 0, 0, 99, 5, 1, 4, 3};
        int[] second = {0, 0, 0, 0, 0, 0, 0, 0, 0};
        int[] third = {8, 0, 0, 0, 0, 0, 0, 8, 0};
        for (int what = 0; what < 9; what++) {
            Check.due("of 0, what " + what, x.village(0, what), first[what]);
            Check.due("of 1, what " + what, x.village(1, what), second[what]);
            Check.due("of 2, what " + what, x.village(2, what), third[what]);
        }
        x.days(1);
        // Of 99 go 24, 12 and 12; 99 come.
        int[] later = {150, 2, 4, 49, 99, 5, 1, 4, 3};
        for (int what = 0; what < 9; what++) {
            Check.due("of 0 a day later, what " + what, x.village(0, what), later[what]);
        }
        Check.due("of 1 a day later", x.village(1, 0), 24);
        Scene.range(0, 8, (y, what) -> y.village(0, what));
        Scene.villages((y, v) -> y.village(v, 0), (y, v) -> y.village(v, 9));
    }

    private static void led() {
        Sentences.of("Promise 9", "How many cups of a HERB (0 to 2) in a basin one VILLAGE put.");
        HerbWaters x = Check.town("village 0;village 0;village 0;channel 0 1 8;channel 1 2 8;");
        Check.opinion(x, 0, "put mint 1;put rue 2;put sage 3;");
        Check.opinion(x, 1, "put mint 10;put rue 20;put sage 30;");
        x.days(3);
        // In basin 2 is what 0 put on day 1, and what 1 put on days 1 and 2.
        int[][] due = {{1, 2, 3, 0, 0, 0}, {1, 2, 3, 10, 20, 30}, {1, 2, 3, 20, 40, 60}};
        for (int v = 0; v < 3; v++) {
            for (int i = 0; i < 6; i++) {
                Check.due("in " + v + " of herb " + i % 3 + " by " + i / 3, x.led(v, i % 3, i / 3), due[v][i]);
            }
            Check.due("in " + v + " by 2", x.led(v, 0, 2), 0);
        }
        Scene.range(0, 2, (y, herb) -> y.led(0, herb, 1));
        Scene.villages((y, v) -> y.led(v, 0, 0), (y, v) -> y.led(v, 3, 0));
        Scene.villages((y, by) -> y.led(0, 0, by), (y, by) -> y.led(0, -1, by));
        Scene.missing("neither is there", y -> y.led(3, 0, 3));
    }

    private static void days() {
        Sentences.of("Promise 10", "So many DAYS (1 to 99) go by: the DAY then (999 at most: no further).");
        Scene.range(1, 99, (x, n) -> x.days(n));
        HerbWaters x = Check.town("village 5;spring 0 3;");
        Check.due("1", x.days(1), 1);
        Check.due("99", x.days(99), 100);
        Check.due("each of them went by", x.village(0, 0), 305);
        for (int i = 2; i <= 9; i++) {
            x.days(99);
            x.days(1);
        }
        Check.due("900", x.told(4), 900);
        Check.due("998", x.days(98), 998);
        Check.due("999 at most", x.days(99), 999);
        Check.due("one day of these went by", x.village(0, 0), 5 + 3 * 999);
        Check.due("no further by 1", x.days(1), 999);
        Check.due("no further by 99", x.days(99), 999);
        Check.due("none went by", x.village(0, 0), 5 + 3 * 999);
        Check.due("that is not refused", x.status(1), 0);
        Check.due("999 can be undone", x.count(2), 999);
        Check.due("what is asked goes on", x.ahead(0, 2, 0), 5 + 3 * 1001);
        Check.due("one is undone", x.undo(1) * 1000 + x.told(4), 1998);
        Check.due("and goes by again", x.days(2), 999);
        Check.due("once", x.village(0, 0), 5 + 3 * 999);
    }

    private static void undo() {
        Sentences.of("Promise 11", "So many DAYS (1 to 99) are undone");
        Scene.range(1, 99, (x, n) -> x.undo(n));
        for (int ahead : new int[] {1, 5, 31, 32, 33, 64, 99}) {
            for (int more : new int[] {1, 2, 31, 32, 33, 65, 99}) {
                HerbWaters x = undoTown();
                x.days(ahead);
                HerbWaters y = undoTown();
                y.days(ahead);
                x.days(more);
                Check.due("undone", x.undo(more), more);
                Check.due(more + " days back to " + ahead, same(x, y));
                x.days(7);
                y.days(7);
                Check.due("and on from " + ahead + " again, behind " + more, same(x, y));
            }
        }
        for (int barrier : new int[] {1, 5, 31, 40}) {
            HerbWaters x = undoTown();
            HerbWaters y = undoTown();
            x.days(barrier);
            x.grade(0, 1);
            y.days(barrier);
            y.grade(0, 1);
            x.days(99);
            x.days(70);
            y.days(63);
            Check.due("99 of them", x.undo(99), 99);
            Check.due("7 of them", x.undo(7), 7);
            Check.due("back to 63 days behind the grade of day " + barrier, same(x, y));
            Check.due("up to the grade", x.undo(99), 63);
            Check.due("its day", x.told(4), barrier);
        }
        HerbWaters fresh = new HerbWaters();
        fresh.days(5);
        Check.due("of a new object", fresh.undo(9) * 10 + fresh.told(4), 50);
        HerbWaters x = undoTown();
        Check.due("none on day 0", x.undo(1), 0);
        x.days(5);
        Check.due("more than there are", x.undo(99), 5);
        Check.due("day 0", x.told(4), 0);
        Check.due("as told", same(x, undoTown()));
    }

    private static HerbWaters undoTown() {
        HerbWaters x = Check.town("village 90;village 8;channel 0 1 3;channel 1 0 2;leak 1 1;tap 1 2;spring 0 9;lag 1 5;"
                + "filter 0 rue 1;");
        Check.opinion(x, 0, "put mint put+1;put sage day/9;");
        Check.opinion(x, 1, "put rue water/5;put sage mint/3;");
        return x;
    }

    /** Whether all is alike that days change, as far as it is asked for within a few calls. */
    private static boolean same(HerbWaters x, HerbWaters y) {
        boolean alike = x.told(4) == y.told(4) && x.count(2) == y.count(2);
        for (int what = 0; what < 5; what++) {
            alike &= x.tap(what) == y.tap(what) && x.sums(what) == y.sums(what);
        }
        for (int i = 0; i < 12; i++) {
            alike &= x.led(i % 2, i / 4, i / 2 % 2) == y.led(i % 2, i / 4, i / 2 % 2)
                    && x.put(i % 2, i / 2) == y.put(i % 2, i / 2)
                    && x.ahead(i % 2, i / 2, i % 3 + 1) == y.ahead(i % 2, i / 2, i % 3 + 1);
        }
        return alike && x.village(0, 0) == y.village(0, 0) && x.village(1, 0) == y.village(1, 0);
    }

    /** Behind a call no day ahead of it can be undone. */
    private static void ends(String label, Scene.Call call) {
        HerbWaters x = Scene.make();
        call.answer(x);
        Check.due("behind " + label, x.count(2), 0);
        int day = x.told(4);
        Check.due("none is undone behind " + label, x.undo(99), 0);
        x.days(3);
        Check.due("up to " + label, x.undo(99), 3);
        Check.due("the day of " + label, x.told(4), day);
    }

    private static void goesOn(String label, Scene.Call call) {
        HerbWaters x = Scene.make();
        try {
            call.answer(x);
        } catch (RuntimeException e) {
            Check.due(label + " is refused", x.status(0) + x.status(1), 1);
        }
        Check.due("behind " + label, x.count(2), 14);
        Check.due("undone behind " + label, x.undo(99), 14);
    }

    private static void undoUpToWhat() {
        Sentences.of("Promise 11", "(to the latest town(), opinion() that was told, please(), contrary(), grade(), rest() that"
                + " were not refused, and restore() at most): how many.");
        ends("town", x -> x.town(10));
        ends("town behind another end", x -> x.grade(0, 1) + x.town(10));
        HerbWaters next = Scene.make();
        next.town(10);
        next.days(3);
        next.undo(2);
        Check.due("days of the next town", next.told(4) * 10 + next.village(0, 0), 17);
        ends("opinion", x -> x.opinion(1, 0));
        ends("please", x -> x.please(1));
        ends("please of the same", x -> x.please(4));
        ends("contrary", x -> x.contrary(1));
        ends("contrary of the same", x -> x.contrary(2));
        ends("grade", x -> x.grade(0, 3));
        ends("grade of the same", x -> x.grade(1, 1));
        ends("rest", x -> x.rest(30, 99));
        ends("restore", x -> x.restore());
        goesOn("a town with a fault", x -> x.town(9));
        goesOn("a refused town", x -> x.town(161));
        goesOn("an opinion with a fault", x -> x.opinion(0, 9));
        goesOn("a refused opinion", x -> x.opinion(0, 151));
        goesOn("an opinion of nobody", x -> x.opinion(3, 0));
        goesOn("a book", x -> x.book(0));
        goesOn("a refused please", x -> x.please(8));
        goesOn("a refused contrary", x -> x.contrary(-1));
        goesOn("a refused grade", x -> x.grade(0, 4));
        goesOn("a grade of nobody", x -> x.grade(3, 0));
        goesOn("a refused rest", x -> x.rest(31, 0));
        goesOn("another refused rest", x -> x.rest(1, 100));
        goesOn("an image", x -> x.image());
        HerbWaters x = undoTown();
        x.days(4);
        Check.due("no image to restore", x.restore(), -1);
        Check.due("that leaves them", x.undo(99), 4);
    }

    private static void tap() {
        Sentences.of("Promise 12", "What came to the TOWN on the DAY that is (0 0): 0 water, 1 to 3 a HERB, 4 VIEW.");
        HerbWaters x = Check.town("village 80;tap 0 4;leak 0 4;spring 0 6;");
        Check.opinion(x, 0, "put mint 2;put rue 1;put sage 8 if day=2;");
        // By rue 1, 2, 2, .. are there as a day begins: as half of one is none, it comes on the third.
        int[][] due = {{0, 0, 0, 0, 0}, {40, 0, 0, 0, 0}, {3, 1, 0, 0, 1}, {3, 1, 1, 4, 7}, {3, 1, 0, 0, 1}};
        for (int day = 0; day < due.length; day++) {
            for (int what = 0; what < 5; what++) {
                Check.due("on day " + day + ", what " + what, x.tap(what), due[day][what]);
            }
            x.days(1);
        }
        x.undo(2);
        Check.due("on day 3 again", x.tap(4), 7);
        Check.due("asked, nothing changed", x.told(4), 3);
        x.undo(3);
        for (int what = 0; what < 5; what++) {
            Check.due("on day 0 again, what " + what, x.tap(what), 0);
        }
        Scene.range(0, 4, (y, what) -> y.tap(what));
    }

    private static void sums() {
        Sentences.of("Promise 13", "In all by now: 0 HERBS that were put, 1 that came to the TOWN, 2 that went to gardens, 3"
                + " that filters took, 4 that are in basins.");
        HerbWaters x = Check.town("village 80;village 50;tap 0 2;leak 0 1;leak 1 8;channel 0 1 1;filter 0 mint 1;");
        Check.opinion(x, 0, "put mint 16;put sage 8;");
        int[] noughts = {0, 0, 0, 0, 0};
        int[] first = {24, 0, 0, 0, 24};
        // 4 and 2 came, 2 and 1 went, 2 and 1 are led to 1; of mint 8 were left, one is taken; 24 are put.
        int[] second = {48, 6, 3, 1, 38};
        for (int what = 0; what < 5; what++) {
            Check.due("on day 0, " + what, x.sums(what), noughts[what]);
        }
        x.days(1);
        for (int what = 0; what < 5; what++) {
            Check.due("on day 1, " + what, x.sums(what), first[what]);
        }
        x.days(1);
        for (int what = 0; what < 5; what++) {
            Check.due("on day 2, " + what, x.sums(what), second[what]);
        }
        x.days(1);
        Check.due("the gardens of 1 got their 3, those of 0 theirs", x.sums(2), 3 + 3 + 2 + 1);
        x.days(50);
        Check.due("none is lost", x.sums(1) + x.sums(2) + x.sums(3) + x.sums(4), x.sums(0));
        x.undo(99);
        for (int what = 0; what < 5; what++) {
            Check.due("on day 0 again, " + what, x.sums(what), noughts[what]);
        }
        HerbWaters grades = Check.town("village 0;");
        Check.opinion(grades, 0, "put mint 9;put rue 1;");
        grades.grade(0, 2);
        grades.days(2);
        Check.due("what grades took", grades.sums(3), 3);
        Scene.range(0, 4, (y, what) -> y.sums(what));
    }

    private static void put() {
        Sentences.of("Promise 14", "How much a VILLAGE put in all of a HERB (0 to 2), came of it to the TOWN (3 to 5).");
        HerbWaters x = Check.town("village 0;village 0;channel 0 1 8;tap 1 8;");
        Check.opinion(x, 0, "put mint 1;put rue 2;put sage 3;put rue 4;");
        Check.opinion(x, 1, "put mint 10;put rue 20;put sage 30;");
        x.days(3);
        // What 0 put on day 1 came on day 3; what 1 put on days 1 and 2 came on days 2 and 3.
        int[][] due = {{3, 18, 9, 1, 6, 3}, {30, 60, 90, 20, 40, 60}};
        for (int v = 0; v < 2; v++) {
            for (int what = 0; what < 6; what++) {
                Check.due("of " + v + ", what " + what, x.put(v, what), due[v][what]);
            }
        }
        x.contrary(1);
        x.days(1);
        Check.due("contrary: mint", x.put(0, 0), 3 + 6);
        Check.due("contrary: rue", x.put(0, 1), 18 + 1);
        Scene.range(0, 5, (y, what) -> y.put(0, what));
        Scene.villages((y, v) -> y.put(v, 0), (y, v) -> y.put(v, 6));
    }

    private static void thinks() {
        Sentences.of("Promise 15", "What a VILLAGE would put of a HERB by its OPINION");
        HerbWaters x = Check.town("village 0;village 0;frog 1;spring 0 7;lag 0 5;");
        String opinion = "put mint water;put rue mint+spring;put sage rue*2+sage;put mint day;put mint put if put>0;";
        Check.opinion(x, 0, opinion);
        Check.opinion(x, 1, opinion);
        x.days(9);
        Check.due("mint", x.thinks(0, 0, 40, 2, 3, 5, 6), 46);
        Check.due("rue", x.thinks(0, 1, 40, 2, 3, 5, 6), 9);
        Check.due("sage", x.thinks(0, 2, 40, 2, 3, 5, 6), 11);
        Scene.range(0, 2, (y, herb) -> y.thinks(0, herb, 0, 0, 0, 0, 0));
        Scene.villages((y, v) -> y.thinks(v, 0, 0, 0, 0, 0, 0), (y, v) -> y.thinks(v, 3, -1, -1, -1, -1, -1));
        Sentences.of("Promise 15", "nothing put ahead; a frog halves; PLEASED or not; CONTRARY is not asked).");
        Check.due("nothing put ahead", x.thinks(0, 0, 1, 0, 0, 0, 1), 2);
        Check.opinion(x, 0, "put sage put+8;");
        Check.due("nothing put ahead is 0", x.thinks(0, 2, 1, 0, 0, 0, 1), 8);
        Check.opinion(x, 0, opinion);
        Check.due("a frog halves each part", x.thinks(1, 0, 41, 0, 0, 0, 7), 20 + 3);
        x.please(3);
        Check.due("pleased", x.thinks(0, 0, 40, 2, 3, 5, 6), 46);
        x.contrary(3);
        Check.due("contrary", x.thinks(0, 0, 40, 2, 3, 5, 6), 46);
        Check.due("contrary, rue", x.thinks(0, 1, 40, 2, 3, 5, 6), 9);
    }

    private static void thinksBounds() {
        Sentences.of("Promise 15", "were there so much water, mint, rue, sage (0 to 9,999 each) in its basin on a DAY (0 to"
                + " 999;");
        Scene.range(0, 9999, (x, number) -> x.thinks(0, 0, number, 0, 0, 0, 0));
        Scene.range(0, 9999, (x, number) -> x.thinks(0, 0, 0, number, 0, 0, 0));
        Scene.range(0, 9999, (x, number) -> x.thinks(0, 0, 0, 0, number, 0, 0));
        Scene.range(0, 9999, (x, number) -> x.thinks(0, 0, 0, 0, 0, number, 0));
        Scene.range(0, 999, (x, number) -> x.thinks(0, 0, 0, 0, 0, 0, number));
        HerbWaters x = Check.town("village 0;");
        Check.opinion(x, 0, "put mint 1 if water=999*10+9 and day=999;put rue 1 if mint+rue+sage=999*30+27;"
                + "put sage 1 if mint+rue+sage+water+day=0;");
        Check.due("the most water and day", x.thinks(0, 0, 9999, 0, 0, 0, 999), 1);
        Check.due("the most of all herbs", x.thinks(0, 1, 0, 9999, 9999, 9999, 0), 1);
        Check.due("the least of all", x.thinks(0, 2, 0, 0, 0, 0, 0), 1);
    }
}
