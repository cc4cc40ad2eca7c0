/** Terms: the bounds of what a town's text may tell. */
final class TownEdges {
    private static final int NONE = HerbWaters.NONE;
    private static final String ONE = "village 1;";
    private static final String TWO = "village 1;village 1;";

    private TownEdges() { }

    static void run() {
        lengths();
        villages();
        channels();
        sharedParts();
        springs();
        leaks();
        taps();
        lags();
        frogs();
        filters();
        feasts();
        herbs();
        toldAhead();
    }

    static void good(String text, int villages) {
        HerbWaters x = new HerbWaters();
        Check.due("\"" + text + "\" is taken", Check.town(x, text), villages);
        Check.due("\"" + text + "\" has no fault", x.fault(), NONE);
    }

    /** The fault is at the first byte of what stands behind "ahead". */
    static void bad(String ahead, String from, int kind) {
        HerbWaters x = new HerbWaters();
        Check.due("\"" + ahead + from + "\" is a fault", Check.town(x, ahead + from), kind - 10);
        Check.due("\"" + ahead + from + "\" has its fault at", x.fault(), ahead.length());
    }

    private static void lengths() {
        Sentences.of("Terms", "A TOWN is a text of up to 600 bytes");
        String full = ONE + " ".repeat(583) + "frog 0;";
        HerbWaters x = Check.town(full);
        Check.due("600 bytes", full.length(), 600);
        Check.due("the last of 600 bytes counts", x.village(0, 6), 1);
        bad(full.substring(0, 599), "x", 1);
        good("", 0);
        Sentences.of("Terms", "{ CLAUSE \";\" }, at most 60.");
        good("", 0);
        good(ONE, 1);
        good(ONE + "frog 0;".repeat(59), 1);
        bad(ONE + "frog 0;".repeat(59), "frog 0;", 3);
        bad("feast 1;".repeat(60), "feast 1;", 3);
    }

    private static void villages() {
        Sentences.of("Terms", "\"village\" W (VILLAGES, numbered from 0 on, 9 at most;");
        StringBuilder nine = new StringBuilder();
        for (int v = 0; v < 9; v++) {
            nine.append("village ").append(10 * v).append(';');
        }
        HerbWaters x = Check.town(nine.toString());
        Check.due("9 villages", x.told(0), 9);
        for (int v = 0; v < 9; v++) {
            Check.due("village " + v, x.village(v, 0), 10 * v);
        }
        bad(nine.toString(), "village 90;", 3);
        Sentences.of("Terms", "W cups of water in its basin at first, 0 to 99)");
        Check.due("0 cups", Check.town("village 0;").village(0, 0), 0);
        Check.due("99 cups", Check.town("village 99;").village(0, 0), 99);
        bad("village ", "100;", 2);
        bad("village ", "-1;", 1);
        bad("village ", ";", 1);
    }

    private static int waterAfterADay(String text, int village) {
        HerbWaters x = Check.town(text);
        x.days(1);
        return x.village(village, 0);
    }

    private static void channels() {
        Sentences.of("Terms", "\"channel\" A B P (P of 8 parts of what is in A's basin go to B, 1 to 8;");
        Check.due("1 part of 16", waterAfterADay("village 16;village 0;channel 0 1 1;", 1), 2);
        Check.due("7 of 8 parts stay", waterAfterADay("village 16;village 0;channel 0 1 1;", 0), 14);
        Check.due("8 parts of 16", waterAfterADay("village 16;village 0;channel 0 1 8;", 1), 16);
        Check.due("nothing stays", waterAfterADay("village 16;village 0;channel 0 1 8;", 0), 0);
        bad(TWO + "channel 0 1 ", "0;", 2);
        bad(TWO + "channel 0 1 ", "9;", 2);
        Sentences.of("Terms", "B may be A;");
        Check.due("all comes again", waterAfterADay("village 16;channel 0 0 8;", 0), 16);
        Check.due("what is cut stays", waterAfterADay("village 15;channel 0 0 1;channel 0 0 3;", 0), 15);
        Sentences.of("Terms", "20 at most;");
        String three = "village 1;village 1;village 1;";
        String six = "channel 0 0 1;channel 1 1 1;channel 2 2 1;".repeat(6);
        Check.due("20 channels", Check.town(three + six + "channel 0 0 1;channel 1 1 1;").told(1), 20);
        bad(three + six + "channel 0 0 1;channel 1 1 1;", "channel 2 2 1;", 3);
    }

    private static void sharedParts() {
        Sentences.of("Terms", "of one VILLAGE all parts, tap's and leak's too, are no more than 8)");
        good(TWO + "channel 0 1 3;channel 0 0 2;tap 0 2;leak 0 1;", 2);
        Check.due("none stay", Check.town(TWO + "channel 0 1 3;channel 0 0 2;tap 0 2;leak 0 1;").village(0, 7), 0);
        bad(TWO + "leak 0 1;tap 0 2;channel 0 1 3;channel 0 0 ", "3;", 2);
        bad(TWO + "leak 0 1;channel 0 0 2;channel 0 1 3;tap 0 ", "3;", 2);
        bad(TWO + "tap 0 2;channel 0 0 2;channel 0 1 3;leak 0 ", "2;", 2);
        bad(TWO + "channel 0 1 8;channel 0 0 ", "1;", 2);
        bad(TWO + "channel 0 1 8;tap 0 ", "1;", 2);
        bad(TWO + "channel 0 1 8;leak 0 ", "1;", 2);
        good(TWO + "channel 0 1 8;leak 0 0;", 2);
        good(TWO + "channel 0 1 8;channel 1 0 7;tap 1 1;", 2);
    }

    private static void springs() {
        Sentences.of("Terms", "\"spring\" K N (N cups of water come to K each DAY, 0 to 99; the last counts)");
        Check.due("0 come", waterAfterADay("village 5;spring 0 0;", 0), 5);
        Check.due("99 come", waterAfterADay("village 5;spring 0 99;", 0), 104);
        bad(ONE + "spring 0 ", "100;", 2);
        Check.due("the last", waterAfterADay("village 5;spring 0 99;spring 0 3;", 0), 8);
        Check.due("the last is 0", waterAfterADay("village 5;spring 0 99;spring 0 0;", 0), 5);
        Check.due("without", waterAfterADay("village 5;", 0), 5);
        Check.due("the last of this village", waterAfterADay("village 5;village 6;spring 0 9;spring 1 3;", 0), 14);
    }

    private static void leaks() {
        Sentences.of("Terms", "\"leak\" K P (P of 8 parts go to its gardens, 0 to 8; the last counts)");
        Check.due("0 parts", waterAfterADay("village 16;leak 0 0;", 0), 16);
        Check.due("8 parts", waterAfterADay("village 16;leak 0 8;", 0), 0);
        bad(ONE + "leak 0 ", "9;", 2);
        Check.due("the last", waterAfterADay("village 16;leak 0 8;leak 0 1;", 0), 14);
        Check.due("parts by the last", Check.town(ONE + "leak 0 8;leak 0 1;tap 0 7;").village(0, 7), 0);
        bad(ONE + "leak 0 8;leak 0 1;tap 0 ", "8;", 2);
        good(ONE + "leak 0 7;leak 0 8;", 1);
    }

    private static void taps() {
        Sentences.of("Terms", "\"tap\" K P (P of 8 parts go to the TOWN, 1 to 8; only once)");
        HerbWaters least = Check.town("village 16;tap 0 1;");
        least.days(1);
        Check.due("1 part", least.tap(0), 2);
        HerbWaters most = Check.town("village 16;tap 0 8;");
        most.days(1);
        Check.due("8 parts", most.tap(0), 16);
        bad(ONE + "tap 0 ", "0;", 2);
        bad(ONE + "tap 0 ", "9;", 2);
        bad(TWO + "tap 0 1;", "tap 1 1;", 4);
        bad(TWO + "tap 0 1;", "tap 0 1;", 4);
    }

    private static void lags() {
        Sentences.of("Terms", "\"lag\" K D (K thinks of its basin as it was D DAYS ago, 0 to 5; 0 without; the last counts)");
        Check.due("without", Check.town(ONE).village(0, 5), 0);
        Check.due("0", Check.town(ONE + "lag 0 0;").village(0, 5), 0);
        Check.due("5", Check.town(ONE + "lag 0 5;").village(0, 5), 5);
        bad(ONE + "lag 0 ", "6;", 2);
        Check.due("the last", Check.town(ONE + "lag 0 5;lag 0 2;").village(0, 5), 2);
        Check.due("the last is 0", Check.town(ONE + "lag 0 5;lag 0 0;").village(0, 5), 0);
        for (String told : new String[] {"", "lag 0 0;", "lag 0 1;", "lag 0 5;", "lag 0 5;lag 0 0;"}) {
            HerbWaters x = Check.town("village 10;spring 0 1;" + told);
            Check.opinion(x, 0, "put mint water;");
            x.days(8);
            int ahead = x.put(0, 0);
            x.days(1);
            Check.due("\"" + told + "\" on day 9", x.put(0, 0) - ahead, 10 + 9 - x.village(0, 5));
        }
    }

    private static void frogs() {
        Sentences.of("Terms", "\"frog\" K (puts but half of all, cut)");
        int[] asked = {0, 1, 2, 3, 98, 99, 100};
        int[] due = {0, 0, 1, 1, 49, 49, 49};
        HerbWaters x = Check.town(ONE + "frog 0;");
        for (int i = 0; i < asked.length; i++) {
            Check.opinion(x, 0, "put sage " + asked[i] + ";");
            Check.due("of " + asked[i], x.thinks(0, 2, 0, 0, 0, 0, 0), due[i]);
        }
        Check.due("told twice, it is one", Check.town(ONE + "frog 0;frog 0;").village(0, 6), 1);
        Check.due("without", Check.town(ONE).village(0, 6), 0);
    }

    /** What is left of 120 cups of each herb in each of two villages. */
    private static int left(String text, int village, int herb) {
        HerbWaters x = Check.town(TWO + text);
        for (int v = 0; v < 2; v++) {
            Check.opinion(x, v, "put mint 99;put mint 21;put rue 99;put rue 21;put sage 99;put sage 21;");
        }
        x.days(1);
        x.please(3);
        x.days(1);
        return x.village(village, 1 + herb);
    }

    private static void filters() {
        Sentences.of("Terms", "\"filter\" K H N (takes N of HERB H out of K's basin each DAY, 0 to 99; of one K and H"
                + " the last counts)");
        Check.due("0", left("filter 0 mint 0;", 0, 0), 120);
        Check.due("99", left("filter 0 mint 99;", 0, 0), 21);
        bad(ONE + "filter 0 mint ", "100;", 2);
        Check.due("the last", left("filter 0 rue 99;filter 0 rue 1;", 0, 1), 119);
        Check.due("the last is 0", left("filter 0 rue 99;filter 0 rue 0;", 0, 1), 120);
        String all = "filter 0 mint 1;filter 0 rue 2;filter 0 sage 3;filter 1 mint 4;";
        int[] due = {119, 118, 117, 116, 120, 120};
        for (int i = 0; i < due.length; i++) {
            Check.due("of another K or H it stays, " + i, left(all, i / 3, i % 3), due[i]);
        }
    }

    private static void feasts() {
        Sentences.of("Terms", "\"feast\" D (0 to 60; 20 without; the last counts)");
        Check.due("0", Check.town("feast 0;").told(3), 0);
        Check.due("60", Check.town("feast 60;").told(3), 60);
        bad("feast ", "61;", 2);
        Check.due("without", Check.town(ONE).told(3), 20);
        Check.due("the last", Check.town("feast 60;feast 0;feast 7;").told(3), 7);
        HerbWaters x = Check.town("feast 60;");
        Check.town(x, ONE);
        Check.due("without, in the next town", x.told(3), 20);
    }

    private static void herbs() {
        Sentences.of("Terms", "HERBS: \"mint\" (0), \"rue\" (1), \"sage\" (2).");
        String[] names = {"mint", "rue", "sage"};
        HerbWaters x = Check.town(ONE);
        for (int herb = 0; herb < 3; herb++) {
            Check.opinion(x, 0, "put " + names[herb] + " 5;");
            for (int other = 0; other < 3; other++) {
                Check.due(names[herb] + " as " + other, x.thinks(0, other, 0, 0, 0, 0, 0), other == herb ? 5 : 0);
            }
        }
        bad(ONE + "filter 0 ", "water 1;", 1);
        bad(ONE + "filter 0 ", "1 1;", 1);
    }

    private static void toldAhead() {
        Sentences.of("Terms", "K, A, B: told ahead.");
        String[] clauses = {"spring ", "leak ", "tap ", "lag ", "frog ", "filter "};
        String[] rests = {" 1;", " 1;", " 1;", " 1;", ";", " rue 1;"};
        for (int i = 0; i < clauses.length; i++) {
            good(TWO + clauses[i] + "1" + rests[i], 2);
            bad(TWO + clauses[i], "2" + rests[i] + ONE, 2);
            bad(clauses[i], "0" + rests[i] + ONE, 2);
        }
        good(TWO + "channel 1 0 1;channel 0 1 1;", 2);
        bad(TWO + "channel ", "2 0 1;" + ONE, 2);
        bad(TWO + "channel 0 ", "2 1;" + ONE, 2);
        bad("channel ", "0 0 1;" + ONE, 2);
    }
}
