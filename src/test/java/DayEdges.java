/** Terms, ==== 2: what happens on each day. */
final class DayEdges {
    private static final int NONE = HerbWaters.NONE;

    private DayEdges() { }

    static void run() {
        dayNought();
        whoPutIt();
        flows();
        springs();
        filters();
        opinions();
        lags();
        tap();
        views();
        pleasedAndContrary();
    }

    private static void dayNought() {
        Sentences.of("Terms", "DAY 0 is as told: water alone.");
        HerbWaters x = Check.town("village 16;spring 0 5;tap 0 8;");
        Check.opinion(x, 0, "put mint 9;put rue 9;put sage 9;");
        Check.due("the day", x.told(4), 0);
        int[] due = {16, 0, 0, 0};
        for (int what = 0; what < 4; what++) {
            Check.due("in the basin, " + what, x.village(0, what), due[what]);
        }
        for (int what = 0; what < 5; what++) {
            Check.due("at the tap, " + what, x.tap(what), 0);
            Check.due("in all, " + what, x.sums(what), 0);
        }
        for (int what = 0; what < 6; what++) {
            Check.due("put, " + what, x.put(0, what), 0);
        }
    }

    private static void whoPutIt() {
        Sentences.of("Terms", "Each cup of a HERB is known by who put it.");
        HerbWaters x = Check.town("village 0;village 0;village 0;channel 0 2 8;channel 1 2 4;");
        Check.opinion(x, 0, "put sage 3;");
        Check.opinion(x, 1, "put sage 8;");
        Check.opinion(x, 2, "put sage 1;");
        x.days(2);
        int[] due = {3, 4, 2};
        for (int by = 0; by < 3; by++) {
            Check.due("of village " + by, x.led(2, 2, by), due[by]);
        }
        Check.due("together", x.village(2, 3), 9);
    }

    private static void flows() {
        Sentences.of("Terms", "(a) of what is in each basin as it begins (water; of each HERB what each VILLAGE put, by"
                + " itself) so many parts of 8 go along each channel, to the tap, to the gardens, each cut; what is left"
                + " stays; all at once.");
        int[] waters = {0, 7, 8, 9, 15, 16, 99};
        int[] eighths = {0, 0, 1, 1, 1, 2, 12};
        for (int i = 0; i < waters.length; i++) {
            HerbWaters x = Check.town("village " + waters[i] + ";village 0;channel 0 1 1;tap 0 1;leak 0 1;");
            x.days(1);
            Check.due("along the channel of " + waters[i], x.village(1, 0), eighths[i]);
            Check.due("to the tap of " + waters[i], x.tap(0), eighths[i]);
            Check.due("what stays of " + waters[i], x.village(0, 0), waters[i] - 3 * eighths[i]);
        }
        HerbWaters each = Check.town("village 7;village 0;channel 0 1 4;channel 0 1 4;");
        each.days(1);
        Check.due("two channels, each cut", each.village(1, 0), 6);
        HerbWaters single = Check.town("village 0;village 0;channel 0 1 8;tap 1 4;leak 1 4;");
        Check.opinion(single, 0, "put mint 1 if day=1;put rue 1 if day=1;");
        Check.opinion(single, 1, "put mint 1 if day=2;put rue 1 if day=2;");
        single.days(9);
        Check.due("halves of single cups do not go", single.village(1, 1) * 10 + single.village(1, 2), 22);
        for (String town : new String[] {"channel 0 1 8;channel 1 2 8;", "channel 1 2 8;channel 0 1 8;"}) {
            HerbWaters x = Check.town("village 9;village 7;village 0;" + town);
            x.days(1);
            Check.due("one step a day, " + town, x.village(0, 0) * 100 + x.village(1, 0) * 10 + x.village(2, 0), 97);
        }
        HerbWaters swap = Check.town("village 8;village 16;channel 0 1 8;channel 1 0 8;");
        swap.days(1);
        Check.due("both at once", swap.village(0, 0) * 100 + swap.village(1, 0), 1608);
    }

    private static void springs() {
        Sentences.of("Terms", "(b) Springs come.");
        HerbWaters x = Check.town("village 0;spring 0 8;tap 0 8;");
        x.days(1);
        Check.due("behind (a): not yet at the tap", x.tap(0), 0);
        Check.due("in the basin", x.village(0, 0), 8);
        x.days(1);
        Check.due("a day later", x.tap(0), 8);
    }

    /** Villages 0, 1, 2 put 2, 3, 4 cups on day 1, which are in basin 3 on day 2, where a filter takes. */
    private static int[] strained(int cups) {
        HerbWaters x = Check.town("village 0;village 0;village 0;village 0;channel 0 3 8;channel 1 3 8;channel 2 3 8;"
                + "tap 3 8;filter 3 rue " + cups + ";");
        for (int v = 0; v < 3; v++) {
            Check.opinion(x, v, "put rue " + (2 + v) + " if day=1;put mint 1 if day=1;");
        }
        x.days(2);
        return new int[] {x.led(3, 1, 0), x.led(3, 1, 1), x.led(3, 1, 2), x.sums(3), x.village(3, 1)};
    }

    private static void filters() {
        Sentences.of("Terms", "(c) Filters take of a HERB what the VILLAGE of the least number put first.");
        int[] cups = {0, 1, 2, 3, 5, 6, 8, 9, 10, 99};
        int[] left = {234, 134, 34, 24, 4, 3, 1, 0, 0, 0};
        for (int i = 0; i < cups.length; i++) {
            int[] got = strained(cups[i]);
            Check.due("left by " + cups[i], got[0] * 100 + got[1] * 10 + got[2], left[i]);
            Check.due("taken by " + cups[i], got[3], Math.min(9, cups[i]));
            Check.due("of another herb by " + cups[i], got[4], 3);
        }
        HerbWaters x = Check.town("village 0;tap 0 8;filter 0 mint 5;");
        Check.opinion(x, 0, "put mint 5;");
        x.days(2);
        Check.due("what went to the tap is not taken", x.tap(1), 5);
        Check.due("nor is what is put on that day", x.village(0, 1), 5);
    }

    private static void opinions() {
        Sentences.of("Terms", "(d) Each VILLAGE, by number, puts HERBS by its OPINION (PART by PART; what it put ahead on"
                + " that DAY is in no basin yet)");
        HerbWaters x = Check.town("village 0;village 0;channel 0 1 8;");
        Check.opinion(x, 0, "put mint 3;put mint mint+1;put rue mint;");
        Check.opinion(x, 1, "put sage mint+1;");
        x.days(1);
        Check.due("its own parts are not there yet", x.village(0, 1), 4);
        Check.due("nor seen by a later part", x.village(0, 2), 0);
        Check.due("nor by the next village", x.village(1, 3), 1);
        Sentences.of("Terms", "by its basin as it was behind (c) of that DAY");
        HerbWaters y = Check.town("village 16;spring 0 5;leak 0 4;filter 0 mint 2;filter 0 rue 9;");
        Check.opinion(y, 0, "put mint 8 if day=1;put rue 8 if day=1;put sage water*3+mint+rue if day=2;");
        y.days(2);
        // Water is 16, 8 + 5, 7 + 5; of 8 mint 4 are left, then 2; of 8 rue none.
        Check.due("behind leaks, springs and filters", y.put(0, 2), 38);
        Sentences.of("Terms", "\"day\" is that DAY's number;");
        HerbWaters z = Check.town("village 0;lag 0 5;village 0;");
        Check.opinion(z, 0, "put mint day if day=1 or day=9;");
        Check.opinion(z, 1, "put mint day-900 if day>998;");
        z.days(1);
        Check.due("1 at first, with a lag too", z.put(0, 0), 1);
        z.days(8);
        Check.due("9", z.put(0, 0), 10);
        for (int i = 0; i < 10; i++) {
            z.days(99);
        }
        Check.due("999 at last", z.put(1, 0), 99);
        Sentences.of("Terms", "a frog halves each PART.");
        HerbWaters frog = Check.town("village 0;frog 0;");
        Check.opinion(frog, 0, "put mint 1;put mint 1;put rue 3;put rue 5;put sage 999;put sage 0-9;");
        frog.days(1);
        Check.due("1 and 1", frog.put(0, 0), 0);
        Check.due("3 and 5", frog.put(0, 1), 3);
        Check.due("99 at most, and 0 at least", frog.put(0, 2), 49);
        Sentences.of("Terms", "Then all that was put is in the basins.");
        Check.due("in the basin", frog.village(0, 2) * 100 + frog.village(0, 3), 349);
        Check.due("by who put it", frog.led(0, 2, 0), 49);
    }

    private static void lags() {
        Sentences.of("Terms", "or, if it has a lag, as it was behind (d) so many DAYS ago (ahead of DAY 0: as on it);");
        for (int lag = 1; lag <= 5; lag++) {
            HerbWaters x = Check.town("village 10;spring 0 1;lag 0 " + lag + ";");
            Check.opinion(x, 0, "put rue water;");
            int ahead = 0;
            for (int day = 1; day <= 14; day++) {
                x.days(1);
                Check.due("lag " + lag + " on day " + day, x.put(0, 1) - ahead, 10 + Math.max(0, day - lag));
                ahead = x.put(0, 1);
            }
        }
        HerbWaters behind = Check.town("village 0;lag 0 1;filter 0 mint 4;");
        Check.opinion(behind, 0, "put mint 5 if day=1;put sage mint if day=2;");
        behind.days(2);
        Check.due("behind (d), not behind (c)", behind.put(0, 2), 5);
        HerbWaters herbs = Check.town("village 0;lag 0 5;tap 0 8;");
        Check.opinion(herbs, 0, "put mint 4 if day=1;put rue 5 if day=1;put sage mint*10+rue if day=6;");
        herbs.days(5);
        Check.due("not yet", herbs.put(0, 2), 0);
        herbs.days(1);
        Check.due("mint and rue of five days ago", herbs.put(0, 2), 45);
        HerbWaters undone = Check.town("village 10;spring 0 1;lag 0 5;");
        Check.opinion(undone, 0, "put rue water;");
        undone.days(40);
        undone.undo(37);
        undone.days(5);
        Check.due("behind days undone", undone.put(0, 1), 5 * 10 + 11 + 12 + 13);
    }

    private static void tap() {
        Sentences.of("Terms", "What came to the TOWN on a DAY is what went to the tap in (a).");
        HerbWaters x = Check.town("village 80;spring 0 8;tap 0 4;leak 0 4;");
        Check.opinion(x, 0, "put mint 8;");
        x.days(2);
        Check.due("water: half of the 8 that came on day 1", x.tap(0), 4);
        Check.due("mint: half of the 8 that were put on day 1", x.tap(1), 4);
        HerbWaters none = Check.town("village 80;leak 0 8;");
        Check.opinion(none, 0, "put mint 8;");
        none.days(3);
        Check.due("without a tap", none.told(2), NONE);
        Check.due("no water", none.tap(0), 0);
        Check.due("no herbs", none.sums(1) + none.tap(1) + none.tap(4), 0);
    }

    private static void views() {
        Sentences.of("Terms", "VIEW: bits of HERBS of which some came from the tap (1 mint, 2 rue, 4 sage).");
        String[] names = {"mint", "rue", "sage"};
        for (int bits = 0; bits < 8; bits++) {
            StringBuilder opinion = new StringBuilder();
            for (int herb = 0; herb < 3; herb++) {
                // Of one cup four parts of eight are none, of two they are one.
                opinion.append("put ").append(names[herb]).append((bits >> herb & 1) == 1 ? " 2;" : " 1;");
            }
            HerbWaters x = Check.town("village 0;tap 0 4;leak 0 4;");
            Check.opinion(x, 0, opinion.toString());
            x.days(1);
            Check.due("none on day 1, " + bits, x.tap(4), 0);
            x.days(1);
            Check.due("on day 2", x.tap(4), bits);
        }
    }

    private static void pleasedAndContrary() {
        Sentences.of("Terms", "PLEASED VILLAGES put nothing.");
        HerbWaters x = Check.town("village 0;village 0;");
        Check.opinion(x, 0, "put mint 3;put rue put+1;");
        Check.opinion(x, 1, "put mint 3;");
        x.please(1);
        x.days(2);
        Check.due("nothing", x.put(0, 0) + x.put(0, 1), 0);
        Check.due("the other one does", x.put(1, 0), 6);
        x.please(0);
        x.days(1);
        Check.due("nothing was put on the day ahead", x.put(0, 1), 1);
        Sentences.of("Terms", "CONTRARY ones put rue for mint, and mint for rue.");
        HerbWaters y = Check.town("village 0;village 0;");
        Check.opinion(y, 0, "put mint 3+put;put rue 5 if rue=0;put sage 7;");
        Check.opinion(y, 1, "put mint 3;");
        y.contrary(1);
        y.days(1);
        Check.due("mint", y.put(0, 0), 5);
        Check.due("rue", y.put(0, 1), 3);
        Check.due("sage as it is", y.put(0, 2), 7);
        Check.due("the other one does not", y.put(1, 0), 3);
        y.days(1);
        Check.due("all it put on the day ahead is as much", y.put(0, 1), 3 + 18);
        Check.due("what is in the basin is looked at as it is", y.put(0, 0), 5);
        y.please(1);
        y.days(1);
        Check.due("pleased too", y.put(0, 0) + y.put(0, 1) + y.put(0, 2), 5 + 21 + 14);
    }
}
