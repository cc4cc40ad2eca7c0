/** Promises 3 to 6: texts with faults, each with its kind and place, and sound ones at the limits. */
public final class FaultTest {
    private static final int NONE_AT = HerbWaters.NONE;
    private static final String NINE = "village 1;".repeat(9);

    public static void main(String[] args) {
        towns();
        parts();
        opinions();
        nesting();
        books();
        cutTexts();
        Check.end("FaultTest");
    }

    private static void badTown(String text, int kind, int place) {
        HerbWaters x = Check.town("village 7;village 8;");
        Check.due("town " + text, Check.town(x, text), kind - 10);
        Check.due("place in town " + text, x.fault(), place);
        Check.due("all stays by town " + text, x.told(0), 2);
        Check.due("the tape is empty by town " + text, x.count(1), 0);
    }

    private static void goodTown(String text, int villages) {
        HerbWaters x = new HerbWaters();
        Check.due("town " + text, Check.town(x, text), villages);
        Check.due("place in town " + text, x.fault(), HerbWaters.NONE);
    }

    private static void badOpinion(String text, int kind, int place) {
        HerbWaters x = Check.town("village 7;");
        Check.opinion(x, 0, "put mint 3;");
        Check.due("opinion " + text, Check.opinion(x, 0, text), kind - 10);
        Check.due("place in opinion " + text, x.fault(), place);
        Check.due("the opinion stays by " + text, x.thinks(0, 0, 0, 0, 0, 0, 0), 3);
        Check.due("the tape is empty by opinion " + text, x.count(1), 0);
    }

    private static void goodOpinion(String text, int parts) {
        HerbWaters x = Check.town("village 7;");
        Check.due("opinion " + text, Check.opinion(x, 0, text), parts);
        Check.due("place in opinion " + text, x.fault(), HerbWaters.NONE);
    }

    private static void badBook(String text, int kind, int place) {
        HerbWaters x = new HerbWaters();
        Check.book(x, "1 0;2 0;");
        Check.due("book " + text, Check.book(x, text), kind - 10);
        Check.due("place in book " + text, x.fault(), place);
        Check.due("the book stays by " + text, x.told(7), 2);
    }

    private static void towns() {
        goodTown("", 0);
        goodTown("    ", 0);
        goodTown(NINE, 9);
        goodTown("village99;village0;channel0 1 8;frog1;feast60;  ", 2);
        goodTown("village 00000000000000000007;", 1);
        goodTown("village 1;filter 0mint 99;filter 0 rue0;filter 0 sage 1 ;", 1);
        goodTown("village 1;" + "frog 0;".repeat(59), 1);
        badTown(";", 1, 0);
        badTown("village", 1, 7);
        badTown("village   ", 1, 10);
        badTown("village 1", 1, 9);
        badTown("village 1 2;", 1, 10);
        badTown("village 1x;", 1, 9);
        badTown("village x;", 1, 8);
        badTown("Village 1;", 1, 0);
        badTown("\tvillage 1;", 1, 0);
        badTown(" villag 1;", 1, 1);
        badTown("put 1;", 1, 0);
        badTown("village 1;;", 1, 10);
        badTown("village 1;filter 0 basil 1;", 1, 19);
        badTown("village 1;filter 0 water 1;", 1, 19);
        badTown("village 1;filter 0 1;", 1, 19);
        badTown("village 1;filter 0 mint;", 1, 23);
        badTown("village 1;frog 0 1;", 1, 17);
        badTown("village 1;\u00e9", 1, 10);
        badTown("village 100;", 2, 8);
        badTown("village 99999999999999999999;", 2, 8);
        badTown("frog 0;", 2, 5);
        badTown("village 1;frog 1;", 2, 15);
        badTown("village 1;channel 0 1 1;", 2, 20);
        badTown("village 1;channel 1 0 1;", 2, 18);
        badTown("village 1;spring 0 100;", 2, 19);
        badTown("village 1;lag 0 6;", 2, 16);
        badTown("village 1;filter 0 rue 100;", 2, 23);
        badTown("feast 61;", 2, 6);
        badTown(NINE + " village 1;", 3, 91);
        badTown(NINE + " village", 3, 91);
        badTown("village 1;" + "frog 0;".repeat(59) + "frog 0;", 3, 423);
        badTown("village 1;" + "frog 0;".repeat(59) + "frogs 0;", 1, 423);
        badTown("village 1;tap 0 1;" + "frog 0;".repeat(58) + "tap 0 1;", 3, 424);
        badTown("village 1;tap 0 1;tap 9 9;", 4, 18);
        badTown("village 1;village 1;village 1;" + "channel 0 0 1;channel 1 1 1;channel 2 2 1;".repeat(6)
                + "channel 0 0 1;channel 1 1 1;channel 2 2 1;", 3, 310);
        goodTown("village 1;village 1;village 1;" + "channel 0 0 1;channel 1 1 1;channel 2 2 1;".repeat(6)
                + "channel 0 0 1;channel 1 1 1;", 3);
    }

    private static void parts() {
        badTown("village 1;channel 0 0 0;", 2, 22);
        badTown("village 1;channel 0 0 9;", 2, 22);
        badTown("village 1;tap 0 0;", 2, 16);
        badTown("village 1;tap 0 9;", 2, 16);
        badTown("village 1;leak 0 9;", 2, 17);
        badTown("village 1;leak 0 5;tap 0 4;", 2, 25);
        badTown("village 1;leak 0 5;channel 0 0 4;", 2, 31);
        badTown("village 1;channel 0 0 5;tap 0 2;leak 0 2;", 2, 39);
        goodTown("village 1;channel 0 0 5;tap 0 2;leak 0 1;", 1);
        goodTown("village 1;leak 0 8;leak 0 0;channel 0 0 8;", 1);
        goodTown("village 1;leak 0 5;leak 0 8;", 1);
        goodTown("village 1;village 1;channel 0 1 8;channel 1 0 8;", 2);
    }

    private static void opinions() {
        goodOpinion("", 0);
        goodOpinion("  ", 0);
        goodOpinion("put mint 1;".repeat(6), 6);
        badOpinion("putmint1;", 1, 0);
        badOpinion("put mintz 1;", 1, 4);
        badOpinion("put mint`1;", 1, 8);
        badOpinion("put mint{1;", 1, 8);
        badOpinion("put mint:1;", 1, 8);
        goodOpinion("put mint 1if 1<2or 3>4and not 5=6;", 1);
        goodOpinion("put sage ( put+day*spring ) / water - mint if [ [ 1 < 2 ] or 2 = 3 ] and rue > sage;", 1);
        badOpinion("put mint 1;".repeat(6) + "put", 3, 66);
        badOpinion("put mint 1;".repeat(6) + "puts", 1, 66);
        badOpinion("put", 1, 3);
        badOpinion("put ;", 1, 4);
        badOpinion("put water 1;", 1, 4);
        badOpinion("mint 1;", 1, 0);
        badOpinion("put mint 1", 1, 10);
        badOpinion("put mint 1 ", 1, 11);
        badOpinion("put mint 1000;", 2, 9);
        badOpinion("put mint -1;", 1, 9);
        badOpinion("put mint 1 +;", 1, 12);
        badOpinion("put mint 1 2;", 1, 11);
        badOpinion("put mint 1 * feast;", 1, 13);
        badOpinion("put mint (1;", 1, 11);
        badOpinion("put mint 1);", 1, 10);
        badOpinion("put mint 1 iff 1<2;", 1, 11);
        badOpinion("put mint 1 if;", 1, 13);
        badOpinion("put mint 1 if 1;", 1, 15);
        badOpinion("put mint 1 if 1 < ;", 1, 18);
        badOpinion("put mint 1 if 1 <= 2;", 1, 17);
        badOpinion("put mint 1 if (1 < 2);", 1, 17);
        badOpinion("put mint 1 if [1 < 2);", 1, 20);
        badOpinion("put mint 1 if [1 + 2];", 1, 20);
        badOpinion("put mint 1 if 1 < 2 or;", 1, 22);
        badOpinion("put mint 1 if 1 < 2 and or;", 1, 24);
        badOpinion("put mint 1 if not;", 1, 17);
        badOpinion("put mint 1 if 1 < 2 < 3;", 1, 20);
        badOpinion("put mint 1 if 1 < 1000;", 2, 18);
    }

    private static void nesting() {
        goodOpinion("put mint ((((((1))))));", 1);
        badOpinion("put mint (((((((1)))))));", 3, 15);
        goodOpinion("put mint ((((((1))))))+((((((1))))));", 1);
        goodOpinion("put mint 1 if not not not not not not 1 < 2;", 1);
        badOpinion("put mint 1 if not not not not not not not 1 < 2;", 3, 38);
        goodOpinion("put mint 1 if not not not not not not 1 < 2 and not 1 < 2;", 1);
        goodOpinion("put mint 1 if [[[[[[1 < 2]]]]]] or [1 < 2];", 1);
        badOpinion("put mint 1 if [[[[[[[1 < 2]]]]]]];", 3, 20);
        goodOpinion("put mint 1 if not [not [not (1) < 2]];", 1);
        badOpinion("put mint 1 if not [not [not [(1) < 2]]];", 3, 29);
        badOpinion("put mint 1 if not [not [not 1 < ((2))]];", 3, 33);
        goodOpinion("put mint 1 if not [not [not 1 < (2)]];", 1);
        badOpinion("put mint (((((( (1;", 3, 16);
    }

    /** What stands on the tape behind the first n bytes is not of the text. */
    private static void cutTexts() {
        String text = "village 12 ; frog 0;";
        int[] places = {0, 0, 0, 7, 8, 9, 10, 11, NONE_AT, NONE_AT};
        int[] lengths = {1, 3, 6, 7, 8, 9, 10, 11, 12, 13};
        for (int i = 0; i < lengths.length; i++) {
            HerbWaters x = new HerbWaters();
            Check.feed(x, text);
            Check.due("cut at " + lengths[i], x.town(lengths[i]), places[i] == NONE_AT ? 1 : -9);
            Check.due("place, cut at " + lengths[i], x.fault(), places[i]);
        }
        HerbWaters x = Check.town("village 1;");
        Check.feed(x, "put mint 12;");
        Check.due("a number that is cut", x.opinion(0, 10), -9);
        Check.due("its place", x.fault(), 10);
    }

    private static void books() {
        HerbWaters x = new HerbWaters();
        Check.due("twelve lines", Check.book(x, "1 1;".repeat(12)), 12);
        Check.due("no lines", Check.book(x, "  "), 0);
        Check.due("edges", Check.book(x, "1 0; 99 7 ;099 07;"), 3);
        badBook("0 1;", 2, 0);
        badBook("100 1;", 2, 0);
        badBook("1 8;", 2, 2);
        badBook("1;", 1, 1);
        badBook("11;", 1, 2);
        badBook("1 1", 1, 3);
        badBook("1 1 1;", 1, 4);
        badBook("a 1;", 1, 0);
        badBook("1 1;".repeat(12) + "1", 3, 48);
        badBook("1 1;".repeat(12) + "0", 2, 48);
        badBook("1 1;".repeat(12) + "x", 1, 48);
    }
}
