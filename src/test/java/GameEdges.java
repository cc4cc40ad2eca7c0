import java.util.Arrays;

/** Terms, ==== 3: the game of filters, droughts and spans. */
final class GameEdges {
    private static final int MOST = Integer.MAX_VALUE;
    private static final int LEAST = Integer.MIN_VALUE;

    private GameEdges() { }

    static void run() {
        grades();
        losses();
        wishes();
        restsWhenNoneChanged();
        restsNever();
        twentyRounds();
        droughts();
        spans();
    }

    private static void grades() {
        Sentences.of("Terms", "GAME: each VILLAGE has a grade of filter (0 to 3): each grade takes a cup of each HERB out of"
                + " its basin each DAY (as a filter of all HERBS more), and costs c a DAY;");
        int[] cups = {0, 1, 2, 3, 4};
        for (int grade = 0; grade <= 3; grade++) {
            for (int put : cups) {
                HerbWaters x = Check.town("village 5;village 5;");
                Check.opinion(x, 0, "put mint " + put + ";put rue " + put + ";put sage " + put + ";");
                x.days(1);
                x.please(1);
                Check.due("a new grade is 0", x.grade(0, grade), 0);
                x.days(1);
                for (int herb = 1; herb <= 3; herb++) {
                    Check.due("of " + put + " by " + grade, x.village(0, herb), Math.max(0, put - grade));
                }
                Check.due("water by " + grade, x.village(0, 0), 5);
                Check.due("taken of " + put + " by " + grade, x.sums(3), 3 * Math.min(put, grade));
            }
        }
        HerbWaters more = Check.town("village 0;filter 0 mint 2;");
        Check.opinion(more, 0, "put mint 9 if day=1;put rue 9 if day=1;");
        more.grade(0, 3);
        more.days(2);
        Check.due("with the filter of mint", more.village(0, 1), 4);
        Check.due("without one of rue", more.village(0, 2), 6);
        more.days(1);
        Check.due("each day", more.village(0, 2), 3);
        HerbWaters cost = Check.town("village 0;");
        for (int grade = 0; grade <= 3; grade++) {
            cost.grade(0, grade);
            Check.due("c a day for grade " + grade, cost.loss(0, 1, 7, 0), 7 * grade);
        }
    }

    private static void losses() {
        Sentences.of("Terms", "its LOSS by a DAY: c times the grade times DAYS from now to it, and all cups of HERBS in its"
                + " basin behind each of these DAYS.");
        HerbWaters x = Check.town("village 60;village 0;channel 0 1 8;");
        Check.opinion(x, 0, "put mint 1;put rue 2;put sage 4;");
        // Basin 0 has 7 behind each day, basin 1 has 0, 7, 14, ..
        Check.due("behind one day", x.loss(0, 1, 0, 0), 7);
        Check.due("behind each of three", x.loss(0, 3, 0, 0), 21);
        Check.due("of the other, one day", x.loss(1, 1, 0, 0), 0);
        Check.due("of the other, three days", x.loss(1, 3, 0, 0), 7 + 14);
        x.days(2);
        Check.due("from now on", x.loss(1, 2, 0, 0), 14 + 21);
        x.grade(0, 3);
        Check.due("c times the grade times days", x.loss(0, 4, 5, 0), 5 * 3 * 4 + 28);
        Check.due("c 0", x.loss(0, 4, 0, 0), 28);
        Check.due("the most of all", x.loss(0, 30, 99, 0), 99 * 3 * 30 + 7 * 30);
        Check.due("the grade of another costs nothing", x.loss(1, 1, 99, 0), 14);
        HerbWaters none = Check.town("village 99;");
        Check.due("water is none", none.loss(0, 30, 99, 0), 0);
    }

    private static void wishes() {
        Sentences.of("Terms", "WISH: the grade of the least LOSS, others as they are (of alike ones the least).");
        HerbWaters x = Check.town("village 0;village 0;channel 0 1 8;");
        Check.opinion(x, 0, "put mint 1;put rue 1;");
        // Behind three days basin 1 had 0, 2, 4 by grade 0, and nothing by all others.
        Check.due("alike grades 1, 2, 3", x.loss(1, 3, 0, 1), 1);
        Check.due("c 1: 6, 3, 6, 9", x.loss(1, 3, 1, 1), 1);
        Check.due("c 2: 6, 6, 12, 18", x.loss(1, 3, 2, 1), 0);
        Check.due("nothing comes to the first", x.loss(0, 3, 0, 1), 0);
        HerbWaters y = Check.town("village 0;village 0;channel 0 0 4;channel 0 1 4;");
        Check.opinion(y, 0, "put mint 3 if day=1;");
        y.days(1);
        // 2 are left in basin 0, and 1 comes to basin 1.
        Check.due("others as they are, grade 0", y.loss(1, 2, 0, 1), 1);
        y.grade(0, 3);
        y.grade(1, 3);
        Check.due("its own grade is not asked for", y.loss(1, 2, 0, 1), 1);
        HerbWaters three = Check.town("village 0;village 0;channel 0 1 8;");
        Check.opinion(three, 0, "put sage 9;");
        Check.due("grade 3", three.loss(1, 30, 0, 1), 3);
        Check.due("asked, the grade stays", three.village(1, 8), 0);
    }

    private static final String FIRST = "put mint 8 if day=1;put rue (8-mint)*10 if day=2;put sage 99 if day=3 and not";

    /**
     * A ring of villages. Of days 1 to 3 each one sees on the third its own grade (by mint) and the next one's (by rue),
     * and puts 99 sage into its own basin unless they are alike: so its wish is the next one's grade. The last one's
     * wish is one more than the first one's grade, and 3, or 0 if it goes round, for 3.
     */
    private static HerbWaters ring(int villages, boolean goesRound) {
        StringBuilder town = new StringBuilder("village 0;".repeat(villages));
        for (int v = 0; v < villages; v++) {
            town.append("channel ").append((v + 1) % villages).append(' ').append(v).append(" 8;");
        }
        HerbWaters x = Check.town(town.toString());
        for (int v = 0; v < villages - 1; v++) {
            Check.opinion(x, v, FIRST + " 8-mint=(rue+9)/10*2;");
        }
        String last = FIRST + "[8-mint=(rue+9)/10*2+1 or mint=" + (goesRound ? 5 : 2) + " and rue>26];";
        Check.due("the last opinion", Check.opinion(x, villages - 1, last), 3);
        return x;
    }

    /** The grades of a ring behind so many rounds. */
    private static int[] behind(int[] begin, int rounds, boolean goesRound) {
        int[] grades = begin.clone();
        int last = grades.length - 1;
        for (int round = 0; round < rounds; round++) {
            for (int v = 0; v < last; v++) {
                grades[v] = grades[v + 1];
            }
            grades[last] = grades[0] < 3 ? grades[0] + 1 : goesRound ? 0 : 3;
        }
        return grades;
    }

    private static void rest(HerbWaters x, int[] begin, int answer, int[] end) {
        for (int v = 0; v < begin.length; v++) {
            x.grade(v, begin[v]);
        }
        Check.due("from " + Arrays.toString(begin), x.rest(3, 0), answer);
        int[] got = new int[begin.length];
        for (int v = 0; v < begin.length; v++) {
            got[v] = x.village(v, 8);
        }
        Check.due("from " + Arrays.toString(begin) + " to " + Arrays.toString(end) + ", got " + Arrays.toString(got),
                Arrays.equals(got, end));
    }

    private static void restsWhenNoneChanged() {
        Sentences.of("Terms", "REST: VILLAGES in turn take their WISH, till none changed in a whole round (1)");
        Check.due("no villages", new HerbWaters().rest(1, 0), 1);
        HerbWaters x = ring(3, false);
        rest(x, new int[] {3, 3, 3}, 1, new int[] {3, 3, 3});
        rest(x, new int[] {0, 3, 3}, 1, new int[] {3, 3, 3});
        rest(x, new int[] {0, 0, 0}, 1, new int[] {3, 3, 3});
        rest(x, new int[] {3, 0, 2}, 1, new int[] {3, 3, 3});
        Check.due("no day went by", x.told(4), 0);
        // In turn: the second one's wish is by what the first one took in the same round.
        HerbWaters turn = Check.town("village 0;village 0;village 0;channel 0 1 8;channel 1 2 8;");
        Check.opinion(turn, 0, "put mint 2;");
        Check.due("the second takes all, so the third none", turn.rest(9, 0), 1);
        Check.due("grade of the second", turn.village(1, 8), 2);
        Check.due("grade of the third", turn.village(2, 8), 0);
    }

    private static void restsNever() {
        Sentences.of("Terms", "or grades are as behind an earlier round or at the beginning");
        HerbWaters x = ring(3, true);
        int[] noughts = {0, 0, 0};
        rest(x, noughts, 0, behind(noughts, 1, true));
        Check.due("behind round 9 it is as behind round 1", Arrays.equals(behind(noughts, 9, true),
                behind(noughts, 1, true)) && !Arrays.equals(behind(noughts, 8, true), noughts));
        int[] begin = {3, 0, 0};
        rest(x, begin, 0, begin);
        Check.due("behind round 8 it is as at the beginning", Arrays.equals(behind(begin, 8, true), begin));
    }

    private static void twentyRounds() {
        Sentences.of("Terms", "or 20 rounds are over (0).");
        HerbWaters x = ring(8, false);
        int[] twenty = {0, 0, 0, 0, 0, 1, 1, 1};
        int[] more = {0, 0, 0, 0, 0, 0, 1, 1};
        int[] threes = {3, 3, 3, 3, 3, 3, 3, 3};
        Check.due("none changed in the 20th round, not in the 19th", Arrays.equals(behind(twenty, 19, false), threes)
                && !Arrays.equals(behind(twenty, 18, false), threes));
        rest(x, twenty, 1, threes);
        Check.due("none would change in the 21st round", Arrays.equals(behind(more, 20, false), threes)
                && !Arrays.equals(behind(more, 19, false), threes));
        rest(x, more, 0, threes);
        Check.due("and again", x.rest(3, 0), 1);
        int[] noughts = new int[8];
        rest(x, noughts, 0, behind(noughts, 20, false));
        HerbWaters round = ring(7, true);
        int[] seven = {3, 1, 0, 2, 0, 0, 1};
        rest(round, seven, 0, behind(seven, 20, true));
    }

    /** The seed is worked out by whole numbers, and cut to 32 bits behind each step. */
    private static long next(long seed) {
        return (seed * 1103515245L + 12345L) % 4294967296L;
    }

    private static int bitsOf(long seed) {
        return (int) (seed / 65536 % 16);
    }

    /** On how many of some days the spring of one of four villages comes. */
    private static int wetDays(int seed, int q, int days, int village) {
        long s = seed & 4294967295L;
        int wet = 0;
        for (int day = 0; day < days; day++) {
            for (int v = 0; v < 4; v++) {
                s = next(s);
                wet += v == village && bitsOf(s) >= q ? 1 : 0;
            }
        }
        return wet;
    }

    private static void droughts() {
        Sentences.of("Terms", "DROUGHT by a SEED: on each DAY for each VILLAGE in order the SEED (32 bits) becomes itself"
                + " times 1,103,515,245, and 12,345 (it wraps); its bits 16 to 19 below Q (0 to 16): its spring does not"
                + " come.");
        for (int v = 0; v < 4; v++) {
            // What comes from a spring is at the tap a day later; village 1 has none, but has its turn.
            HerbWaters x = Check.town("village 0;village 0;village 0;village 0;spring 0 5;spring 2 5;spring 3 5;tap " + v
                    + " 8;");
            for (int seed : new int[] {0, 1, -1, 12345, MOST, LEAST, 1103515245, -715827883}) {
                for (int q : new int[] {0, 1, 7, 8, 15, 16}) {
                    int due = v == 1 ? 0 : 5 * wetDays(seed, q, 9, v);
                    Check.due("at " + v + " by seed " + seed + ", q " + q, x.drought(seed, q, 10, 1), due);
                }
            }
        }
        HerbWaters y = Check.town("village 0;spring 0 8;tap 0 8;");
        Check.due("q 0: it always comes", y.drought(5, 0, 60, 1), 59 * 8);
        Check.due("q 16: it never does", y.drought(5, 16, 60, 1), 0);
        for (int seed = 0; seed < 9; seed++) {
            int bits = bitsOf(next(seed));
            Check.due("no less than q, seed " + seed, y.drought(seed, bits, 2, 1), 8);
            Check.due("below q, seed " + seed, y.drought(seed, bits + 1, 2, 1), 0);
        }
    }

    private static void spans() {
        Sentences.of("Terms", "SPAN of so many SEEDS (1 to 30; seed, seed and 1, ..).");
        String town = "village 0;village 0;spring 0 3;spring 1 50;channel 0 1 8;tap 1 8;";
        for (int seed : new int[] {7, -3, MOST - 4, LEAST}) {
            for (int many : new int[] {1, 2, 29, 30}) {
                HerbWaters x = Check.town(town);
                Check.opinion(x, 1, "put mint 1 if water>49;");
                int clear = 0;
                int least = MOST;
                int most = 0;
                for (int i = 0; i < many; i++) {
                    // Behind the most of all seeds comes the least of all.
                    int water = x.drought(seed + i, 8, 11, 1);
                    clear += x.drought(seed + i, 8, 11, 0) == 0 ? 1 : 0;
                    least = Math.min(least, water);
                    most = Math.max(most, water);
                }
                String label = many + " seeds from " + seed;
                Check.due(label + ", clear", x.span(seed, many, 8, 11, 0), clear);
                Check.due(label + ", least", x.span(seed, many, 8, 11, 1), least);
                Check.due(label + ", most", x.span(seed, many, 8, 11, 2), most);
            }
        }
    }
}
