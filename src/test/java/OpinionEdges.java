/** Terms: the bounds of opinions, of their values, and of what all texts are made of. */
final class OpinionEdges {
    private static final int NONE = HerbWaters.NONE;

    private OpinionEdges() { }

    static void run() {
        lengths();
        conditions();
        sums();
        looks();
        values();
        parts();
        numbers();
        words();
        blanks();
    }

    static void good(String text, int parts) {
        HerbWaters x = Check.town("village 1;");
        Check.due("\"" + text + "\" is taken", Check.opinion(x, 0, text), parts);
        Check.due("\"" + text + "\" has no fault", x.fault(), NONE);
    }

    static void bad(String ahead, String from, int kind) {
        HerbWaters x = Check.town("village 1;");
        Check.due("\"" + ahead + from + "\" is a fault", Check.opinion(x, 0, ahead + from), kind - 10);
        Check.due("\"" + ahead + from + "\" has its fault at", x.fault(), ahead.length());
    }

    /** What it puts of sage, by 50 water, 4 mint, 9 rue, 2 sage on day 3, with a spring of 6. */
    private static int puts(String sum) {
        HerbWaters x = Check.town("village 7;spring 0 6;");
        Check.due("\"" + sum + "\" is told", Check.opinion(x, 0, "put sage " + sum + ";"), 1);
        return x.thinks(0, 2, 50, 4, 9, 2, 3);
    }

    private static void so(String condition) {
        Check.due("so: " + condition, puts("1 if " + condition), 1);
    }

    private static void notSo(String condition) {
        Check.due("not so: " + condition, puts("1 if " + condition), 0);
    }

    private static void lengths() {
        Sentences.of("Terms", "An OPINION is a text of up to 150 bytes");
        String full = "put mint 1;" + " ".repeat(128) + "put rue 22;";
        HerbWaters x = Check.town("village 1;");
        Check.due("150 bytes", full.length(), 150);
        Check.due("150 bytes are taken", Check.opinion(x, 0, full), 2);
        Check.due("the last of them count", x.thinks(0, 1, 0, 0, 0, 0, 0), 22);
        bad(full.substring(0, 149), "x", 1);
        Check.feed(x, full + " ".repeat(10));
        Check.improper("151 bytes", () -> x.opinion(0, 151));
        Check.due("it stays", x.thinks(0, 1, 0, 0, 0, 0, 0), 22);
        Check.due("an empty one", x.opinion(0, 0), 0);
        Check.due("an empty one puts nothing", x.thinks(0, 1, 0, 0, 0, 0, 0), 0);
        Sentences.of("Terms", "{ PART \";\" }, at most 6");
        good("", 0);
        good("put mint 1;", 1);
        good("put mint 1;".repeat(6), 6);
        bad("put mint 1;".repeat(6), "put mint 1;", 3);
        Sentences.of("Terms", "\"put\" HERB E, perhaps \"if\" C.");
        Check.due("without if", puts("7"), 7);
        Check.due("with if", puts("7 if 1=1"), 7);
        bad("put ", "water 1;", 1);
        bad("put mint", ";", 1);
        bad("put mint 1 if", ";", 1);
        bad("put mint 1 if 1=1 ", "if 1=1;", 1);
    }

    private static void conditions() {
        Sentences.of("Terms", "C: D { \"or\" D }. D: B { \"and\" B }.");
        so("1=1");
        so("1=2 or 1=2 or 1=1");
        notSo("1=2 or 1=2 or 1=2");
        so("1=1 and 1=1 and 1=1");
        notSo("1=1 and 1=1 and 1=2");
        notSo("1=2 and 1=1 and 1=1");
        so("1=1 or 1=1 and 1=2");
        so("1=2 and 1=1 or 1=1");
        so("1=2 and 1=1 or 1=2 or 1=1 and 1=1");
        bad("put mint 1 if 1=1 or", ";", 1);
        bad("put mint 1 if 1=1 and", ";", 1);
        Sentences.of("Terms", "B: \"not\" B, \"[\" C \"]\", or E R E; R: <, > or =.");
        so("3<4");
        notSo("4<4");
        notSo("5<4");
        notSo("3>4");
        notSo("4>4");
        so("5>4");
        notSo("3=4");
        so("4=4");
        notSo("5=4");
        so("0-1<0");
        so("3<4 and 4=4 and 5>4");
        so("not 4<3 and not 3>4 and not 3=4");
        notSo("not 3<4 or not 4>3 or not 4=4");
        so("not 1=2");
        notSo("not 1=2 and 1=2");
        notSo("[1=1 or 1=1] and 1=2");
        so("not [1=1 and 1=2]");
        notSo("not not 1=2");
        bad("put mint 1 if 1", ";", 1);
        bad("put mint 1 if 1<", "=2;", 1);
        bad("put mint 1 if 1<2", "<3;", 1);
        bad("put mint 1 if [", "];", 1);
        bad("put mint 1 if [1<2", ";", 1);
        bad("put mint 1 if (1", "<2);", 1);
    }

    private static void sums() {
        Sentences.of("Terms", "E: T { + or - T }. T: U { * or / U }.");
        Check.due("one", puts("7"), 7);
        Check.due("from the left", puts("50-20-9+1"), 22);
        Check.due("from the left by * and /", puts("90/4*3/2"), 33);
        Check.due("* ahead of +", puts("1+2*3+4*5"), 27);
        Check.due("/ ahead of -", puts("20-9/2-1"), 15);
        bad("put mint ", "-1;", 1);
        bad("put mint 1+", "+1;", 1);
        bad("put mint 1*", ";", 1);
    }

    private static void looks() {
        Sentences.of("Terms", "U: N (0 to 999)");
        Check.due("0", puts("0"), 0);
        Check.due("999", puts("999-990"), 9);
        bad("put mint ", "1000;", 2);
        Sentences.of("Terms", "a HERB (so much of it in the basin), \"water\", \"day\"");
        Check.due("mint", puts("mint"), 4);
        Check.due("rue", puts("rue"), 9);
        Check.due("sage", puts("sage"), 2);
        Check.due("water", puts("water"), 50);
        Check.due("day", puts("day"), 3);
        for (String lag : new String[] {"", "lag 0 1;"}) {
            HerbWaters basin = Check.town("village 6;" + lag);
            Check.opinion(basin, 0, "put mint 2 if day=1;put rue 3 if day=1;put sage 5 if day=1;"
                    + "put sage water*8+mint*4+rue*2+sage if day=2;");
            basin.days(2);
            Check.due("on a day, \"" + lag + "\"", basin.put(0, 2), 5 + 6 * 8 + 2 * 4 + 3 * 2 + 5);
        }
        bad("put mint ", "lag;", 1);
        bad("put mint ", "village;", 1);
        Sentences.of("Terms", "\"put\" (all it put on the DAY ahead)");
        HerbWaters x = Check.town("village 0;");
        Check.opinion(x, 0, "put mint put+3;put rue put+4;");
        // Nothing was put ahead of day 1; then 3 and 4, 10 and 11, 24 and 25 are.
        int[] inAll = {7, 28, 77};
        for (int day = 1; day <= 3; day++) {
            x.days(1);
            Check.due("in all by day " + day, x.put(0, 0) + x.put(0, 1), inAll[day - 1]);
        }
        Sentences.of("Terms", "\"spring\" (N as told)");
        Check.due("as told", puts("spring"), 6);
        HerbWaters without = Check.town("village 0;");
        Check.opinion(without, 0, "put mint spring+1;");
        Check.due("without one", without.thinks(0, 0, 9, 9, 9, 9, 9), 1);
        HerbWaters dry = Check.town("village 0;spring 0 6;tap 0 8;");
        Check.opinion(dry, 0, "put mint 1 if spring=6;");
        Check.due("in a drought too", dry.drought(1, 16, 2, 0), 1);
        Sentences.of("Terms", "or \"(\" E \")\".");
        Check.due("a sum", puts("(2+3)*(4-1)"), 15);
        Check.due("within one", puts("((9-(3-2)))"), 8);
        bad("put mint (", ");", 1);
        bad("put mint (1", ";", 1);
        bad("put mint 1", ");", 1);
    }

    private static void values() {
        Sentences.of("Terms", "Values are whole numbers of 32 bits that wrap");
        // 2147483648 is 512 * 512 * 512 * 16.
        so("512*512*512*16<0");
        so("512*512*512*16-1>0");
        so("0-512*512*512*16=512*512*512*16");
        so("512*512*512*32=0");
        so("512*512*512*16-1+1<0");
        Sentences.of("Terms", "/ cuts, by 0 it is 0.");
        Check.due("7 / 2", puts("7/2"), 3);
        Check.due("1 / 2", puts("1/2"), 0);
        Check.due("-7 / 2", puts("10+(0-7)/2"), 7);
        Check.due("7 / -2", puts("10+7/(0-2)"), 7);
        Check.due("-7 / -2", puts("(0-7)/(0-2)"), 3);
        Check.due("7 / 0", puts("5+7/0"), 5);
        Check.due("0 / 0", puts("5+0/0"), 5);
        Check.due("by a herb that is not there", puts("5+7/(mint-4)"), 5);
        so("512*512*512*16/(0-1)=512*512*512*16");
    }

    private static void parts() {
        Sentences.of("Terms", "What a PART puts is E, 0 at least, 99 at most (0, if C is not so).");
        Check.due("-1", puts("0-1"), 0);
        Check.due("0", puts("0"), 0);
        Check.due("1", puts("1"), 1);
        Check.due("98", puts("98"), 98);
        Check.due("99", puts("99"), 99);
        Check.due("100", puts("100"), 99);
        Check.due("the most", puts("512*512*512*16-1"), 99);
        Check.due("the least", puts("512*512*512*16"), 0);
        Check.due("not so", puts("99 if 1=2"), 0);
        HerbWaters x = Check.town("village 0;");
        Check.opinion(x, 0, "put rue 100;put rue 0-50;put rue 99;put rue 9 if 1=2;put rue 1;");
        Check.due("each part by itself", x.thinks(0, 1, 0, 0, 0, 0, 0), 199);
        x.days(1);
        Check.due("each part by itself, on a day", x.put(0, 1), 199);
    }

    private static void numbers() {
        Sentences.of("Terms", "Numbers: digits, as many as stand there;");
        Check.due("007", Check.town("village 007;").village(0, 0), 7);
        Check.due("many zeros", Check.town("village " + "0".repeat(500) + "99;").village(0, 0), 99);
        TownEdges.bad("village ", "4294967297;", 2);
        TownEdges.bad("village ", "18446744073709551617;", 2);
        TownEdges.bad("village ", "1" + "0".repeat(500) + ";", 2);
        TownEdges.bad("village ", "2147483648;", 2);
        TownEdges.bad("village 1", "x;", 1);
        TownEdges.bad("village 1 ", "2;", 1);
        bad("put mint ", "4294967296;", 2);
        BookEdges.bad("", "4294967297 1;", 2);
        BookEdges.bad("1", ";", 1);
        BookEdges.bad("11", ";", 1);
        BookEdges.good("1  1;", 1);
        TownEdges.bad("village 1;channel 0", ";", 1);
        TownEdges.bad("village ", "/1;", 1);
        TownEdges.bad("village ", ":1;", 1);
        TownEdges.good("village 0;village 9;", 2);
    }

    private static void words() {
        Sentences.of("Terms", "WORDS: small letters, as many as stand there;");
        TownEdges.bad("", "villages 1;", 1);
        TownEdges.bad("", "villag 1;", 1);
        TownEdges.bad("", "Village 1;", 1);
        TownEdges.bad("", "VILLAGE 1;", 1);
        TownEdges.bad("", "villagefrog 1;", 1);
        TownEdges.bad("", "villagez 1;", 1);
        TownEdges.bad("", "avillage 1;", 1);
        TownEdges.bad("", "xillage 1;", 1);
        TownEdges.bad("", "villagx 1;", 1);
        for (String other : new String[] {"mint", "rue", "sage", "water", "day", "put", "if", "or", "and", "not"}) {
            TownEdges.bad("village 1;", other + " 0 1;", 1);
            TownEdges.bad("village 1;", other + ";", 1);
        }
        TownEdges.good("village1;frog0;filter0mint1;", 1);
        TownEdges.bad("village", "`1;", 1);
        TownEdges.bad("village", "{1;", 1);
        TownEdges.bad("village", "A1;", 1);
        bad("put ", "mintrue 1;", 1);
        bad("", "putmint 1;", 1);
        bad("put mint 1", "iff 1=1;", 1);
        good("put mint 1if 1=1or 1=1and not[1=1];", 1);
        bad("put mint 1 if ", "notmint=1;", 1);
        BookEdges.bad("", "day 1;", 1);
    }

    private static void blanks() {
        Sentences.of("Terms", "blanks (32) may stand ahead of all these, and at the end.");
        TownEdges.good("   ", 0);
        TownEdges.good("  village   5  ;  frog  0  ;  ", 1);
        good("  put  mint  (  1  +  2  )  *  3  if  not  [  1  <  2  ]  and  1  >  2  or  1  =  1  ;  ", 1);
        BookEdges.good("  1  1  ;  ", 1);
        for (int other : new int[] {0, 9, 10, 13, 31, 33, 160, 255}) {
            String sign = String.valueOf((char) other);
            TownEdges.bad("", sign + "village 1;", 1);
            TownEdges.bad("village", sign + "1;", 1);
            TownEdges.bad("village 1", sign + ";", 1);
            TownEdges.bad("village 1;", sign, 1);
            bad("put mint 1;", sign, 1);
            BookEdges.bad("1", sign + "1;", 1);
        }
        TownEdges.bad("", "vill age 1;", 1);
        TownEdges.bad("village 1 ", "0;", 1);
    }
}
