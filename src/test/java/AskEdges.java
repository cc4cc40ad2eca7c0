/** Terms, ==== 3: what is asked, from whom to please up to the rounds that come again. GameEdges has the rest. */
final class AskEdges {
    private static final int NONE = HerbWaters.NONE;

    private AskEdges() { }

    static void run() {
        nothingStaysChanged();
        clear();
        whom();
        filters();
        minds();
        whereItBegan();
        tasted();
        rounds();
        whatARoundCompares();
        GameEdges.run();
    }

    private static void nothingStaysChanged() {
        Sentences.of("Terms", "Asked, nothing stays changed.");
        Scene.asked("thinks", x -> x.thinks(0, 0, 1, 2, 3, 4, 5));
        Scene.asked("view 0", x -> x.view(0));
        Scene.asked("view 99", x -> x.view(99));
        Scene.asked("ahead", x -> x.ahead(2, 99, 3));
        for (int view = 0; view < 8; view++) {
            int bits = view;
            Scene.asked("when " + view, x -> x.when(bits));
        }
        Scene.asked("whom 1", x -> x.whom(1));
        Scene.asked("whom 60", x -> x.whom(60));
        Scene.asked("feast", x -> x.feast());
        Scene.asked("filters", x -> x.filters(2, 0, 60));
        Scene.asked("filters near", x -> x.filters(2, 2, 1));
        for (int part = 0; part < 4; part++) {
            int what = part;
            Scene.asked("minds " + part, x -> x.minds(what));
        }
        Scene.asked("right", x -> x.right());
        Scene.asked("where 1", x -> x.where(1));
        Scene.asked("where 60", x -> x.where(60));
        Scene.asked("tasted", x -> x.tasted(0, 60));
        Scene.asked("round", x -> x.round(0));
        Scene.asked("round ago", x -> x.round(1));
        Scene.asked("loss", x -> x.loss(0, 30, 99, 0));
        Scene.asked("wish", x -> x.loss(1, 30, 1, 1));
        Scene.asked("drought", x -> x.drought(7, 9, 60, 0));
        Scene.asked("water of a drought", x -> x.drought(7, 16, 60, 1));
        Scene.asked("span", x -> x.span(7, 30, 9, 60, 2));
    }

    private static void clear() {
        Sentences.of("Terms", "CLEAR on a DAY: VIEW 0.");
        // One cup of each herb does not come by four parts of eight, two do.
        for (String herb : new String[] {"mint", "rue", "sage"}) {
            HerbWaters one = Check.town("village 8;tap 0 4;");
            Check.opinion(one, 0, "put " + herb + " 1 if day=1;");
            Check.due("one cup of " + herb + " stays", one.whom(2), 0);
            HerbWaters two = Check.town("village 8;tap 0 4;");
            Check.opinion(two, 0, "put " + herb + " 2 if day=1;");
            Check.due("two cups of " + herb, two.whom(2), 1);
        }
        HerbWaters none = Check.town("village 8;");
        Check.opinion(none, 0, "put mint 9;");
        Check.due("without a tap it is always so", none.whom(60), 0);
    }

    /** On day 3 sage comes if what 0 and 1 put on day 1 lets village 2 put it; neither mint nor rue ever comes. */
    private static HerbWaters three(String condition) {
        HerbWaters x = Check.town("village 0;village 0;village 0;channel 0 2 8;channel 1 2 8;tap 2 4;feast 3;");
        Check.opinion(x, 0, "put mint 1 if day=1;");
        Check.opinion(x, 1, "put rue 1 if day=1;");
        Check.opinion(x, 2, "put sage 2 if " + condition + ";");
        return x;
    }

    private static void whom() {
        Sentences.of("Terms", "WHOM to please (from now on) so that it is CLEAR on a later DAY: of all sets of VILLAGES"
                + " that hold all that are PLEASED now the one of the fewest, of alike ones the least bits.");
        Check.due("nobody", three("1=1").whom(1), 0);
        Check.due("of three alike ones the least bits", three("mint>0 and rue>0").whom(3), 1);
        Check.due("one of more bits ahead of two of less", three("mint>0 or rue>0").whom(3), 4);
        HerbWaters x = three("mint>0 or rue>0");
        x.please(2);
        Check.due("who is pleased is in it, with the least bits", x.whom(3), 3);
        x.please(4);
        Check.due("who is pleased is enough", x.whom(3), 4);
        x.please(7);
        Check.due("all are pleased", x.whom(3), 7);
        HerbWaters y = three("mint>0 or rue>0");
        y.days(1);
        Check.due("from now on: the herbs of 0 and 1 are there", y.whom(2), 4);
        y.days(1);
        Check.due("from now on: the sage is there", y.whom(1), NONE);
        HerbWaters nine = Check.town("village 0;".repeat(9) + "channel 0 8 8;channel 1 8 8;channel 2 8 8;channel 3 8 8;"
                + "channel 4 8 8;channel 5 8 8;channel 6 8 8;channel 7 8 8;tap 8 8;");
        for (int v = 0; v < 9; v++) {
            Check.opinion(nine, v, "put sage 1;");
        }
        Check.due("all nine", nine.whom(60), 511);
    }

    private static void filters() {
        Sentences.of("Terms", "FILTERS: the least N (0 to 99) of one more filter for a HERB in a VILLAGE (each DAY from"
                + " now on) by which none of it comes from the tap on a DAY.");
        HerbWaters x = Check.town("village 0;village 0;channel 0 1 8;tap 1 8;");
        Check.opinion(x, 0, "put mint 99;put rue 99;put rue 1;put sage 1;");
        Check.due("0", x.filters(1, 0, 2), 0);
        Check.due("1", x.filters(1, 2, 3), 1);
        Check.due("99", x.filters(1, 0, 3), 99);
        Check.due("100 would be needed", x.filters(1, 1, 3), NONE);
        x.days(2);
        Check.due("from now on", x.filters(1, 0, 1), NONE);
        Check.due("from now on, a day later", x.filters(1, 0, 2), 99);
        HerbWaters y = Check.town("village 0;tap 0 1;");
        Check.opinion(y, 0, "put mint 4;");
        // Below 8 cups nothing comes: 4 and 8 - N ahead of day 3, 12 - 2N ahead of day 4.
        Check.due("each day, by day 3", y.filters(0, 0, 3), 1);
        Check.due("each day, by day 4", y.filters(0, 0, 4), 3);
        HerbWaters more = Check.town("village 0;village 0;channel 0 1 8;tap 1 8;filter 1 mint 90;");
        Check.opinion(more, 0, "put mint 99;");
        Check.due("one more, besides the one told", more.filters(1, 0, 3), 9);
        more.grade(1, 3);
        Check.due("one more, besides its grade", more.filters(1, 0, 3), 6);
    }

    private static void minds(String label, HerbWaters x, int count, int first, int all, int none) {
        Check.due("how many, " + label, x.minds(0), count);
        Check.due("the first, " + label, x.minds(1), first);
        Check.due("in all, " + label, x.minds(2), all);
        Check.due("in none, " + label, x.minds(3), none);
    }

    private static void minds() {
        Sentences.of("Terms", "MINDS: sets of VILLAGES by which, if just these are CONTRARY from DAY 0 on (nobody PLEASED,"
                + " grades 0), the BOOK is right in all its lines: how many, the first (bits), in all, in none.");
        StringBuilder town = new StringBuilder("village 0;".repeat(9));
        for (int v = 0; v < 8; v++) {
            town.append("channel ").append(v).append(" 8 8;");
        }
        HerbWaters x = Check.town(town + "tap 8 8;");
        minds("no lines", x, 512, 0, 0, 0);
        for (int v = 0; v < 9; v++) {
            Check.opinion(x, v, "put mint 1 if day=1;");
        }
        minds("no lines, with opinions", x, 512, 0, 0, 0);
        // Of village 8 it comes on day 2, of all others on day 3.
        Check.book(x, "3 1;");
        minds("mint on day 3", x, 2, 0, 0, 255);
        Check.book(x, "3 2;2 2;");
        minds("rue on days 3 and 2", x, 1, 511, 511, 0);
        Check.book(x, "3 3;");
        minds("both on day 3", x, 508, 1, 0, 0);
        Check.book(x, "3 3;4 1;");
        minds("the last line is wrong", x, 0, NONE, 0, 0);
        Check.book(x, "4 1;3 3;");
        minds("the first line is wrong", x, 0, NONE, 0, 0);
        Check.book(x, "2 2;3 1;4 0;");
        x.please(511);
        x.contrary(255);
        x.grade(8, 3);
        x.days(9);
        minds("from day 0 on, nobody pleased", x, 1, 256, 256, 255);
        Check.opinion(x, 8, "put rue 1 if day=1;put sage 1 if day=5;");
        minds("by another opinion, of rue", x, 1, 0, 0, 511);
        Check.opinion(x, 8, "put mint 1 if day=1;put sage 1 if day=5;");
        minds("by another opinion, of mint", x, 1, 256, 256, 255);
        Check.opinion(x, 8, "put rue 1 if day=1;");
        minds("of rue alone", x, 1, 0, 0, 511);
        Check.opinion(x, 8, "put mint 1 if day=1;");
        minds("of mint alone", x, 1, 256, 256, 255);
        Check.book(x, "3 1;4 0;");
        Check.opinion(x, 8, "put sage 1 if day=1;");
        minds("of sage alone, contrary or not", x, 2, 0, 0, 255);
        Check.town(x, "village 0;village 0;");
        minds("of another town", x, 4, 0, 0, 0);
    }

    private static void whereItBegan() {
        Sentences.of("Terms", "WHERE it began: one VILLAGE alone, nobody knows which, has an OPINION (its own; all others"
                + " none; from DAY 0 on, nobody PLEASED, CONTRARY, grades 0).");
        HerbWaters x = Check.town("village 0;village 0;channel 0 1 8;filter 1 mint 99;");
        Check.opinion(x, 0, "put mint 3 if day=1;");
        Check.opinion(x, 1, "put sage 1 if mint+rue>0 or day=1;");
        for (int i = 0; i < 2; i++) {
            Check.due("0 alone, day 1, " + i, x.tasted(0, 1), 1);
            Check.due("0 alone, day 2: filtered, " + i, x.tasted(0, 2), 0);
            Check.due("1 alone, day 1, " + i, x.tasted(1, 1), 2);
            Check.due("by these, day 2, " + i, x.where(2), 2);
            x.please(3);
            x.contrary(3);
            x.grade(1, 3);
            x.days(7);
        }
    }

    private static void tasted() {
        Sentences.of("Terms", "TASTED are basins behind a DAY (whether there is any HERB in them): the fewest VILLAGES to"
                + " taste in so that unlike VILLAGES taste unlike, as far as they do in all basins together; of alike ones"
                + " the least bits.");
        HerbWaters x = Check.town("village 0;".repeat(9));
        Check.due("nobody puts: nowhere", x.where(1), 0);
        for (int v = 0; v < 9; v++) {
            Check.opinion(x, v, "put " + (v % 2 == 0 ? "rue" : "sage") + " 1;");
        }
        Check.due("each in its own basin: all but one, the least bits", x.where(1), 255);
        Check.opinion(x, 3, "");
        Check.due("one nowhere: all the others", x.where(1), 511 - 8);
        Check.opinion(x, 5, "");
        Check.due("two nowhere are alike", x.where(60), 511 - 8 - 32);
        HerbWaters one = Check.town("village 0;");
        Check.opinion(one, 0, "put mint 1;");
        Check.due("one village is like itself", one.where(1), 0);
        HerbWaters two = Check.town("village 0;village 0;channel 0 1 4;");
        Check.opinion(two, 0, "put mint 2;");
        Check.opinion(two, 1, "put mint 2;");
        Check.due("day 1: in 0 or in 1, the least bits", two.where(1), 1);
        Check.due("both basins, by 0", two.tasted(0, 2), 3);
        Check.due("in 1 alone, by 1", two.tasted(1, 2), 2);
        Check.due("day 2: in 0", two.where(2), 1);
        HerbWaters last = Check.town("village 0;village 0;village 0;channel 0 2 8;channel 1 2 8;");
        Check.opinion(last, 0, "put mint 1 if day=1;");
        Check.opinion(last, 1, "put mint 1 if day=1;");
        Check.due("0 and 1 taste alike in all basins: only in 2", last.where(2), 4);
        HerbWaters fewer = Check.town("village 0;village 0;village 0;channel 0 2 4;channel 1 2 4;");
        Check.opinion(fewer, 0, "put mint 2;");
        Check.opinion(fewer, 1, "put mint 2;");
        // By 0: 0 and 2; by 1: 1 and 2; by 2: none.
        Check.due("two of three, the least bits", fewer.where(9), 3);
    }

    private static void round(String label, HerbWaters x, int behind, int ago) {
        Check.due("behind, " + label, x.round(0), behind);
        Check.due("ago, " + label, x.round(1), ago);
    }

    private static void rounds() {
        Sentences.of("Terms", "ROUND: from now on behind how many DAYS (1 to 200) all is as it was on a DAY from now on,"
                + " and how many DAYS ago that was:");
        round("nothing is there", new HerbWaters(), 1, 1);
        round("nothing goes", Check.town("village 5;"), 1, 1);
        round("three basins", Check.town("village 8;village 0;village 0;channel 0 1 8;channel 1 2 8;channel 2 0 8;"), 3, 3);
        HerbWaters x = Check.town("village 16;tap 0 4;");
        // 16, 8, 4, 2, 1, 1
        round("till it stays", x, 5, 1);
        x.days(3);
        round("from now on", x, 2, 1);
        x.days(1);
        round("it stays now", x, 1, 1);
        HerbWaters far = Check.town("village 0;");
        Check.opinion(far, 0, "put mint 1 if mint<198;");
        round("behind 200 days", far, 200, 1);
        Check.opinion(far, 0, "put mint 1 if mint<199;");
        round("behind 201 days", far, NONE, NONE);
        far.days(1);
        round("behind 200 days, a day later", far, 200, 1);
        Sentences.of("Terms", "Never, if an OPINION asks for day.");
        HerbWaters day = Check.town("village 5;village 5;");
        Check.opinion(day, 1, "put mint 0 if 1=2 and day=3;");
        round("in a condition that is never so", day, NONE, NONE);
        day.please(2);
        round("of one who is pleased", day, NONE, NONE);
        Check.opinion(day, 1, "put mint 0*(1+day);");
        round("in a sum", day, NONE, NONE);
        Check.opinion(day, 1, "put mint 0*day*water;put rue 0;");
        round("ahead of other words", day, NONE, NONE);
        Check.opinion(day, 1, "put mint 0;");
        round("no longer", day, 1, 1);
        Check.opinion(day, 0, "put mint 0 if day<0;");
        round("of the first village", day, NONE, NONE);
        Check.opinion(day, 0, "");
        Check.opinion(day, 1, "put mint day");
        round("in a text with a fault", day, 1, 1);
    }

    private static void whatARoundCompares() {
        Sentences.of("Terms", "basins (each cup by who put it);");
        HerbWaters who = Check.town("village 0;village 0;channel 0 1 8;channel 1 0 8;");
        Check.opinion(who, 0, "put mint 8 if mint=0;");
        Check.opinion(who, 1, "put mint 8 if mint=0;");
        // Day 1: their own cups, just put; then these change places, and nothing is put again.
        round("cups that change places", who, 4, 2);
        Sentences.of("Terms", "of each VILLAGE with a lag its basin (water, HERBS) as it was 1, 2, .. lag less 1 DAYS ago;");
        for (int lag = 0; lag <= 5; lag++) {
            int due = Math.max(1, lag) + 1;
            round("water, lag " + lag, Check.town("village 0;tap 0 8;spring 0 4;lag 0 " + lag + ";"), due, 1);
            for (String herb : new String[] {"mint", "rue", "sage"}) {
                HerbWaters x = Check.town("village 0;village 0;tap 0 8;lag 0 " + lag + ";");
                Check.opinion(x, 0, "put " + herb + " 4;");
                round(herb + ", lag " + lag, x, due, 1);
            }
        }
        HerbWaters other = Check.town("village 0;tap 0 8;spring 0 4;village 0;lag 1 5;");
        round("a lag of another village", other, 2, 1);
        HerbWaters later = Check.town("village 0;tap 0 8;spring 0 4;lag 0 5;");
        later.days(3);
        round("days ahead of now are looked at too", later, 3, 1);
        Sentences.of("Terms", "what each put on its latest DAY.");
        HerbWaters put = Check.town("village 0;village 0;");
        Check.opinion(put, 1, "put mint 1 if mint=0;");
        // The basin is 0, 1, 1, 1; what was put 0, 1, 0, 0.
        round("alike basins, unlike puts", put, 3, 1);
        put.days(1);
        round("what was put on the day that is", put, 2, 1);
        put.days(1);
        round("nothing was put on the day that is", put, 1, 1);
    }
}
