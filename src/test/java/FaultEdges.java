/** Terms: which fault a text has, and where. */
final class FaultEdges {
    private static final String SIXTY = "village 1;" + "frog 0;".repeat(59);

    private FaultEdges() { }

    static void run() {
        firstFromTheLeft();
        misplaced();
        noSuchNumber();
        tooMany();
        tooDeep();
        secondTap();
        leastOfOne();
    }

    private static void firstFromTheLeft() {
        Sentences.of("Terms", "FAULTS, the first from the left, at its first byte:");
        TownEdges.bad("village ", "100;villages 1;", 2);
        TownEdges.bad("village 1;tap 0 1;", "tap 0 1;villages 1;", 4);
        TownEdges.bad("village 1;", "frogs 0;tap 0 9;", 1);
        TownEdges.bad("village 1;   ", "frogs 0;", 1);
        TownEdges.bad("village    ", "100;", 2);
        OpinionEdges.bad("put mint ", "1000 1;", 2);
        OpinionEdges.bad("put mint 1;".repeat(6), "put mint 1000;", 3);
        BookEdges.bad("", "100 8;", 2);
        BookEdges.bad("1 1;1 ", "8;x", 2);
    }

    private static void misplaced() {
        Sentences.of("Terms", "1 what can't stand there (at the length, if the text ends too early);");
        TownEdges.bad("village 1", ",", 1);
        TownEdges.bad("village 1;", ";", 1);
        OpinionEdges.bad("put mint 1", ",", 1);
        BookEdges.bad("1 1", ",", 1);
        String town = "village 12;channel 0 0 8 ;";
        int[] places = {-1, 0, 0, 0, 0, 0, 0, 7, 8, 9, 10, -1, 11, 11, 11, 11, 11, 11, 18, 19, 20, 21, 22, 23, 24, 25};
        for (int n = 0; n < places.length; n++) {
            HerbWaters x = new HerbWaters();
            Check.feed(x, town);
            Check.due("cut at " + n, x.town(n), places[n] >= 0 ? -9 : n == 0 ? 0 : 1);
            Check.due("its place, cut at " + n, x.fault(), places[n]);
        }
        OpinionEdges.bad("put mint 1", "", 1);
        OpinionEdges.bad("put mint 1  ", "", 1);
        OpinionEdges.bad("put mint 1 if not [1 < (2", "", 1);
        OpinionEdges.bad("put", "", 1);
        BookEdges.bad("1", "", 1);
        BookEdges.bad("1 ", "", 1);
        BookEdges.bad("1 1", "", 1);
    }

    private static void noSuchNumber() {
        Sentences.of("Terms", "2 a number that is none such (also parts by which there would be more than 8: at P);");
        TownEdges.bad("village ", "100;", 2);
        TownEdges.bad("village 1;frog ", "1;", 2);
        TownEdges.bad("village 1;channel 0 0 8;channel 0 0 ", "1;", 2);
        TownEdges.bad("village 1;channel 0 0 7;tap 0 ", "2;", 2);
        TownEdges.bad("village 1;channel 0 0 7;leak 0  ", "2;", 2);
        TownEdges.bad("village 1;leak 0 7;channel 0 0 ", "2;", 2);
        TownEdges.bad("village 1;leak 0 5;channel 0 0 ", "4;leak 0 0;", 2);
        OpinionEdges.bad("put mint 1 if 1 < ", "1000;", 2);
        BookEdges.bad("", "0 1;", 2);
        BookEdges.bad("1 ", "8;", 2);
    }

    private static void tooMany() {
        Sentences.of("Terms", "3 a CLAUSE, VILLAGE, channel, PART or line too many (at its word, its D)");
        TownEdges.bad(SIXTY, "frog 0;", 3);
        TownEdges.bad(SIXTY + "  ", "frog", 3);
        TownEdges.bad("village 1;".repeat(9), "village 100;", 3);
        String three = "village 1;village 1;village 1;";
        String channels = "channel 0 0 1;channel 1 1 1;channel 2 2 1;".repeat(6) + "channel 0 0 1;channel 1 1 1;";
        TownEdges.bad(three + channels + " ", "channel 9 9 9;", 3);
        OpinionEdges.bad("put mint 1;".repeat(6) + " ", "put", 3);
        BookEdges.bad("1 1;".repeat(12) + " ", "1", 3);
        HerbWaters x = Check.town("village 1;" + "frog 0;".repeat(59) + "   ");
        Check.due("blanks behind the last are none", x.fault(), HerbWaters.NONE);
    }

    private static void tooDeep() {
        Sentences.of("Terms", "or a 7th of ( [ and not that is open at one time (a not till its B ends);");
        OpinionEdges.good("put mint ((((((1))))));", 1);
        OpinionEdges.bad("put mint ((((((", "(1)))))));", 3);
        OpinionEdges.good("put mint ((((((1))))))+((((((1))))));", 1);
        OpinionEdges.bad("put mint ((((((1))))))+((((((", "(1)))))));", 3);
        OpinionEdges.good("put mint 1 if [[[[[[1<2]]]]]] and [[[[[[1<2]]]]]];", 1);
        OpinionEdges.bad("put mint 1 if [[[[[[", "[1<2]]]]]]];", 3);
        OpinionEdges.good("put mint 1 if not not not not not not 1<2;", 1);
        OpinionEdges.bad("put mint 1 if not not not not not not ", "not 1<2;", 3);
        OpinionEdges.good("put mint 1 if not not not not not not 1<2 and not not not not not not 1<2;", 1);
        OpinionEdges.good("put mint 1 if not not not not not not 1<2 or not 1<2;", 1);
        OpinionEdges.bad("put mint 1 if not not not not not not ", "[1<2];", 3);
        OpinionEdges.bad("put mint 1 if not not not not not not ", "(1)<2;", 3);
        OpinionEdges.bad("put mint 1 if not not not not not not 1<", "(2);", 3);
        OpinionEdges.bad("put mint 1 if not [not [not [", "not 1<2]]];", 3);
        OpinionEdges.bad("put mint 1 if [not [not [(1)<(2)]] and [not [not [", "not 1<2]]]];", 3);
        OpinionEdges.good("put mint 1 if [not [not [(1)<(2)]] and [not [not [1<2]]]];", 1);
        OpinionEdges.good("put mint ((((((1))))));put mint ((((((1))))));", 1 + 1);
        HerbWaters x = Check.town("village 1;");
        Check.opinion(x, 0, "put mint 1 if not [not ((((1");
        Check.due("nothing is open as the next text begins", Check.opinion(x, 0, "put mint ((((((1))))));"), 1);
    }

    private static void secondTap() {
        Sentences.of("Terms", "4 a second tap (at the word);");
        TownEdges.bad("village 1;tap 0 1;", "tap 0 1;", 4);
        TownEdges.bad("village 1;tap 0 1; ", "tap 9 9;", 4);
        TownEdges.bad("village 1;tap 0 8;", "tap", 4);
        TownEdges.bad("village 1;tap 0 8;", "taps", 1);
    }

    private static void leastOfOne() {
        Sentences.of("Terms", "of one the least.");
        TownEdges.bad(SIXTY, "frogs 0;", 1);
        TownEdges.bad(SIXTY, ";", 1);
        String tap = "village 1;tap 0 1;" + "frog 0;".repeat(58);
        TownEdges.bad(tap, "tap 0 1;", 3);
        OpinionEdges.bad("put mint 1;".repeat(6), "puts mint 1;", 1);
        OpinionEdges.bad("put mint ((((((1", "(1;", 1);
        OpinionEdges.bad("put mint 1 if [[[[[[1<2 ", "not 1<2;", 1);
        OpinionEdges.bad("put mint ((((((", "[1<2];", 1);
        OpinionEdges.bad("put mint ((((((", "not 1<2;", 1);
        BookEdges.bad("1 1;".repeat(12), "0 1;", 2);
        BookEdges.bad("1 1;".repeat(12), "100 1;", 2);
        BookEdges.bad("1 1;".repeat(12), "x", 1);
        BookEdges.bad("1 1;".repeat(12), ";", 1);
    }
}
