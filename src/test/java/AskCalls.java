/** Promises 16 to 28: what is asked; AskEdges has the sentences of the terms. */
final class AskCalls {
    private static final int NONE = HerbWaters.NONE;

    private AskCalls() { }

    static void run() {
        view();
        ahead();
        when();
        please();
        contrary();
        whom();
        feast();
        filters();
        minds();
        right();
        where();
        tasted();
        round();
    }

    /** On day 2 mint comes, on day 100 rue, on day 101 sage. */
    private static HerbWaters far() {
        HerbWaters x = Check.town("village 16;tap 0 8;spring 0 1;");
        Check.opinion(x, 0, "put mint 1 if day=1;put rue 2 if day=99;put sage 3 if day=100;");
        return x;
    }

    private static void view() {
        Sentences.of("Promise 16", "VIEW so many DAYS on (0 to 99).");
        Scene.range(0, 99, (x, days) -> x.view(days));
        HerbWaters x = far();
        Check.due("on day 0", x.view(0), 0);
        Check.due("1 on", x.view(1), 0);
        Check.due("2 on", x.view(2), 1);
        x.days(1);
        Check.due("1 on from day 1", x.view(1), 1);
        Check.due("99 on from day 1", x.view(99), 2);
        Check.due("98 on from day 1", x.view(98), 0);
        x.days(1);
        Check.due("0 on is what came on the day that is", x.view(0), 1);
        Check.due("99 on from day 2", x.view(99), 4);
    }

    private static void ahead() {
        Sentences.of("Promise 17", "So many DAYS on (0 to 99): 0 water in a basin, 1 to 3 a HERB.");
        Scene.range(0, 99, (x, days) -> x.ahead(0, days, 0));
        Scene.range(0, 3, (x, what) -> x.ahead(0, 1, what));
        Scene.villages((x, v) -> x.ahead(v, 1, 0), (x, v) -> x.ahead(v, 100, 4));
        HerbWaters x = far();
        Check.due("water of now", x.ahead(0, 0, 0), 16);
        Check.due("water 1 on", x.ahead(0, 1, 0), 1);
        Check.due("mint 0 on", x.ahead(0, 0, 1), 0);
        Check.due("mint 1 on", x.ahead(0, 1, 1), 1);
        Check.due("mint 2 on", x.ahead(0, 2, 1), 0);
        Check.due("rue 98 on", x.ahead(0, 98, 2), 0);
        Check.due("rue 99 on", x.ahead(0, 99, 2), 2);
        x.days(1);
        Check.due("sage 99 on", x.ahead(0, 99, 3), 3);
        Check.due("no sage 98 on", x.ahead(0, 98, 3), 0);
    }

    private static void when() {
        Sentences.of("Promise 18", "The first of the next 99 DAYS (1 on) on which the VIEW is such (0 to 7); NONE.");
        Scene.range(0, 7, (x, view) -> x.when(view));
        HerbWaters x = far();
        Check.due("clear: tomorrow", x.when(0), 1);
        Check.due("mint", x.when(1), 2);
        Check.due("rue: on the 100th, too far", x.when(2), NONE);
        x.days(1);
        Check.due("rue: on the 99th", x.when(2), 99);
        Check.due("sage: on the 100th, too far", x.when(4), NONE);
        Check.due("mint: tomorrow", x.when(1), 1);
        x.days(1);
        Check.due("mint: not on the day that is", x.when(1), NONE);
        Check.due("sage: on the 99th", x.when(4), 99);
        Check.due("never", x.when(7), NONE);
        HerbWaters all = Check.town("village 0;tap 0 8;");
        Check.opinion(all, 0, "put mint day/4*9;put rue day/2-day/4*2;put sage day-day/2*2;");
        // As bits of the day ahead: sage is 1, rue 2, mint 4 (from day 4 on).
        int[] due = {1, 5, 3, 7, 2, 6, 4, 8};
        for (int view = 0; view < 8; view++) {
            Check.due("view " + view, all.when(view), due[view]);
        }
    }

    private static void setBounds(Scene.NumberCall call) {
        Scene.range(0, 7, call);
        Scene.improper("the bit of a village and another", x -> call.answer(x, 9));
        Scene.improper("the bit of no village", x -> call.answer(x, 1 << 31 | 1));
        HerbWaters nine = Check.town("village 0;".repeat(9));
        Check.due("of nine all", call.answer(nine, 511), 0);
        Check.improper("of nine a tenth", () -> call.answer(nine, 512));
        Check.due("of nine, what it was", call.answer(nine, 256), 511);
        HerbWaters none = new HerbWaters();
        Check.improper("of no villages the first", () -> call.answer(none, 1));
        Check.due("of no villages nobody", call.answer(none, 0), 0);
    }

    private static void please() {
        Sentences.of("Promise 19", "PLEASED are VILLAGES (bits) from now on: what it was.");
        HerbWaters x = Check.town("village 0;village 0;village 0;");
        for (int v = 0; v < 3; v++) {
            Check.opinion(x, v, "put mint 1;");
        }
        x.days(1);
        Check.due("nobody was", x.please(5), 0);
        Check.due("the cups of day 1 stay", x.sums(0), 3);
        x.days(2);
        Check.due("from now on", x.put(0, 0) * 100 + x.put(1, 0) * 10 + x.put(2, 0), 131);
        Check.due("0 and 2 were", x.please(0), 5);
        x.days(1);
        Check.due("nobody from now on", x.put(0, 0) * 100 + x.put(1, 0) * 10 + x.put(2, 0), 242);
        Sentences.of("Promise 19", "IllegalArgumentException: bits of no VILLAGES (so below).");
        setBounds((y, set) -> y.please(set));
    }

    private static void contrary() {
        Sentences.of("Promise 20", "CONTRARY likewise.");
        HerbWaters x = Check.town("village 0;village 0;village 0;");
        for (int v = 0; v < 3; v++) {
            Check.opinion(x, v, "put mint 1;");
        }
        x.days(1);
        Check.due("nobody was", x.contrary(5), 0);
        x.days(2);
        Check.due("mint", x.put(0, 0) * 100 + x.put(1, 0) * 10 + x.put(2, 0), 131);
        Check.due("rue", x.put(0, 1) * 100 + x.put(1, 1) * 10 + x.put(2, 1), 202);
        Check.due("0 and 2 were", x.contrary(2), 5);
        x.days(1);
        Check.due("rue from now on", x.put(0, 1) * 100 + x.put(1, 1) * 10 + x.put(2, 1), 212);
        setBounds((y, set) -> y.contrary(set));
    }

    /** Whatever is put comes to the tap a day later. */
    private static HerbWaters open(String town, String opinion) {
        HerbWaters x = Check.town("village 0;tap 0 8;" + town);
        Check.opinion(x, 0, opinion);
        return x;
    }

    private static void whom() {
        Sentences.of("Promise 21", "WHOM, so many DAYS on (1 to 60), as bits; NONE: by no set.");
        Scene.range(1, 60, (x, days) -> x.whom(days));
        HerbWaters x = open("", "put mint 1 if day=59;put rue 1 if day=1;");
        Check.due("1 on", x.whom(1), 0);
        Check.due("2 on", x.whom(2), 1);
        Check.due("59 on", x.whom(59), 0);
        Check.due("60 on", x.whom(60), 1);
        x.days(1);
        Check.due("by no set", x.whom(1), NONE);
        x.please(1);
        Check.due("by no set, all are pleased", x.whom(1), NONE);
        Check.due("who is pleased", x.whom(2), 1);
        Check.due("nobody is there", new HerbWaters().whom(60), 0);
    }

    private static void feast() {
        Sentences.of("Promise 22", "The same for the feast: NONE also if it is not ahead, or more than 60 DAYS off.");
        Check.due("on day 0", open("feast 0;", "").feast(), NONE);
        Check.due("1 off", open("feast 1;", "").feast(), 0);
        HerbWaters x = open("feast 60;", "put mint 1;");
        Check.due("60 off", x.feast(), 1);
        x.days(58);
        Check.due("2 off", x.feast(), 1);
        x.days(1);
        Check.due("1 off: by no set", x.feast(), NONE);
        x.days(1);
        Check.due("it is today", x.feast(), NONE);
        x.days(1);
        Check.due("it is over", x.feast(), NONE);
        HerbWaters clear = open("feast 9;", "");
        clear.days(8);
        Check.due("1 off, clear", clear.feast(), 0);
        clear.days(1);
        Check.due("today, clear", clear.feast(), NONE);
        clear.days(1);
        Check.due("over, clear", clear.feast(), NONE);
        clear.undo(2);
        Check.due("ahead again", clear.feast(), 0);
        HerbWaters usual = open("", "put mint 1 if day=19;");
        Check.due("20 without", usual.feast(), 1);
        Check.due("nobody is there", new HerbWaters().feast(), 0);
        Check.due("none of these is refused", x.status(0) + x.status(1) + clear.status(1), 0);
    }

    private static void filters() {
        Sentences.of("Promise 23", "FILTERS, so many DAYS on (1 to 60); NONE: not by 99.");
        Scene.range(1, 60, (x, days) -> x.filters(0, 0, days));
        Scene.range(0, 2, (x, herb) -> x.filters(0, herb, 1));
        Scene.villages((x, v) -> x.filters(v, 0, 1), (x, v) -> x.filters(v, 3, 0));
        HerbWaters x = Check.town("village 0;village 0;channel 0 1 8;tap 1 8;");
        Check.opinion(x, 0, "put mint 99 if day=58;put rue 99 if day=58;put rue 1 if day=58;put sage 1 if day=58;");
        Check.due("59 on", x.filters(1, 0, 59), 0);
        Check.due("60 on, by 99", x.filters(1, 0, 60), 99);
        Check.due("60 on, not by 99", x.filters(1, 1, 60), NONE);
        Check.due("60 on, by 1", x.filters(1, 2, 60), 1);
        Check.due("in another village", x.filters(0, 2, 60), NONE);
        HerbWaters near = open("", "put mint 1;");
        Check.due("1 on", near.filters(0, 0, 1), 0);
        near.days(1);
        Check.due("1 on: what comes is not to be taken", near.filters(0, 0, 1), NONE);
        Check.due("of another herb nothing comes", near.filters(0, 1, 1), 0);
    }

    private static void minds() {
        Sentences.of("Promise 24", "MINDS: 0 how many sets, 1 the first (NONE), 2 in all, 3 in none (0 without a set).");
        Scene.range(0, 3, (x, what) -> x.minds(what));
        HerbWaters x = Check.town("village 0;village 0;village 0;channel 1 0 8;channel 2 0 8;tap 0 8;");
        Check.opinion(x, 0, "put mint 1 if day=1;");
        Check.opinion(x, 1, "put mint 1 if day=2;");
        Check.opinion(x, 2, "put mint 1 if day=3;");
        String[] books = {"", "2 1;", "2 2;", "2 2;4 1;", "2 2;4 2;5 2;", "2 3;", "2 1;2 2;", "5 1;4 2;"};
        int[][] due = {{8, 0, 0, 0}, {4, 0, 0, 1}, {4, 1, 1, 0}, {2, 1, 1, 2}, {1, 7, 7, 0}, {0, NONE, 0, 0},
            {0, NONE, 0, 0}, {2, 2, 2, 4}};
        for (int i = 0; i < books.length; i++) {
            Check.book(x, books[i]);
            for (int what = 0; what < 4; what++) {
                Check.due("\"" + books[i] + "\", " + what, x.minds(what), due[i][what]);
            }
        }
        HerbWaters none = new HerbWaters();
        int[] nobody = {1, 0, 0, 0};
        int[] wrong = {0, NONE, 0, 0};
        for (int what = 0; what < 4; what++) {
            Check.due("nobody is there, " + what, none.minds(what), nobody[what]);
        }
        Check.book(none, "1 1;");
        for (int what = 0; what < 4; what++) {
            Check.due("nobody is there, a wrong line, " + what, none.minds(what), wrong[what]);
        }
    }

    private static void right() {
        Sentences.of("Promise 25", "How many lines of the BOOK are so, from the first on (by those CONTRARY now, from DAY 0 on;"
                + " nobody PLEASED, grades 0).");
        HerbWaters x = open("village 0;channel 1 0 8;", "put mint 1 if day=1;put sage 1 if day=98;");
        Check.due("no line", x.right(), 0);
        String[] books = {"2 1;", "2 2;", "2 1;1 1;3 0;", "1 1;2 1;", "2 1;99 4;1 0;", "2 1;".repeat(12),
            "2 1;".repeat(11) + "3 1;", "2 1;2 0;2 1;"};
        int[] due = {1, 0, 1, 0, 3, 12, 11, 1};
        for (int i = 0; i < books.length; i++) {
            Check.book(x, books[i]);
            Check.due("\"" + books[i] + "\"", x.right(), due[i]);
        }
        Check.book(x, "2 1;99 4;1 0;");
        x.please(3);
        x.grade(0, 3);
        x.days(99);
        Check.due("from day 0 on, nobody pleased, grades 0", x.right(), 3);
        x.contrary(2);
        Check.due("contrary is another one", x.right(), 3);
        x.contrary(1);
        Check.due("contrary is this one", x.right(), 0);
        Check.book(x, "2 2;99 4;");
        Check.due("by those contrary now", x.right(), 2);
        x.contrary(0);
        Check.due("nobody any more", x.right(), 0);
    }

    private static void where() {
        Sentences.of("Promise 26", "WHERE: TASTED on a DAY (1 to 60), as bits.");
        Scene.range(1, 60, (x, day) -> x.where(day));
        HerbWaters x = Check.town("village 0;village 0;village 0;channel 1 2 8;");
        Check.opinion(x, 0, "put mint 1 if day=60;");
        Check.opinion(x, 1, "put rue 1 if day=1;");
        Check.due("day 1", x.where(1), 2);
        Check.due("day 2", x.where(2), 4);
        Check.due("day 59", x.where(59), 4);
        Check.due("day 60", x.where(60), 5);
        Check.due("nobody is there", new HerbWaters().where(60), 0);
    }

    private static void tasted() {
        Sentences.of("Promise 27", "In which basins there is any HERB behind a DAY (1 to 60), if a VILLAGE alone has its"
                + " OPINION, as WHERE it began has it (bits).");
        Scene.range(1, 60, (x, day) -> x.tasted(0, day));
        Scene.villages((x, v) -> x.tasted(v, 1), (x, v) -> x.tasted(v, 0));
        HerbWaters x = Check.town("village 9;village 9;village 9;channel 0 1 4;channel 1 2 8;");
        Check.opinion(x, 0, "put sage 2 if day=58;");
        Check.opinion(x, 1, "put rue 1 if sage>0;");
        for (int i = 0; i < 2; i++) {
            Check.due("day 1, " + i, x.tasted(0, 1), 0);
            Check.due("day 57, " + i, x.tasted(0, 57), 0);
            Check.due("day 58, " + i, x.tasted(0, 58), 1);
            Check.due("day 59, " + i, x.tasted(0, 59), 3);
            Check.due("day 60, " + i, x.tasted(0, 60), 5);
            Check.due("by 1 alone, day 60, " + i, x.tasted(1, 60), 0);
            Check.due("by 2, that has none, " + i, x.tasted(2, 60), 0);
            x.please(7);
            x.contrary(7);
            x.grade(0, 3);
            x.days(3);
        }
        HerbWaters nine = Check.town("village 0;".repeat(9));
        Check.opinion(nine, 8, "put mint 1;");
        Check.due("the ninth", nine.tasted(8, 1), 256);
    }

    private static void round() {
        Sentences.of("Promise 28", "ROUND: 0 behind how many DAYS, 1 how many DAYS ago; NONE: not within 200.");
        Scene.range(0, 1, (x, what) -> x.round(what));
        HerbWaters x = Check.town("village 8;village 0;channel 0 1 8;channel 1 0 8;");
        Check.due("behind two days", x.round(0) * 10 + x.round(1), 22);
        HerbWaters never = Check.town("village 8;spring 0 1;");
        Check.due("never: behind", never.round(0), NONE);
        Check.due("never: ago", never.round(1), NONE);
        HerbWaters far = Check.town("village 0;");
        Check.opinion(far, 0, "put mint 1 if mint<198;");
        Check.due("within 200: behind", far.round(0), 200);
        Check.due("within 200: ago", far.round(1), 1);
        Check.opinion(far, 0, "put mint 1 if mint<199;");
        Check.due("not within 200: behind", far.round(0), NONE);
        Check.due("not within 200: ago", far.round(1), NONE);
    }
}
