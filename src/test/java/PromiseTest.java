/** For each promise from 1 to 37: ordinary inputs, the edges, wrong inputs. FaultTest has the faults of texts. */
public final class PromiseTest {
    private static final int NONE = HerbWaters.NONE;
    private static final int LEAST = Integer.MIN_VALUE;
    private static final int MOST = Integer.MAX_VALUE;

    public static void main(String[] args) {
        newObject();
        feed();
        town();
        secondTown();
        opinion();
        opinionValues();
        book();
        told();
        village();
        flows();
        led();
        days();
        undo();
        tap();
        sums();
        put();
        thinks();
        lagsAndFrogs();
        view();
        when();
        please();
        contrary();
        whom();
        feast();
        filters();
        minds();
        right();
        where();
        round();
        grade();
        loss();
        rest();
        drought();
        span();
        images();
        statusAndCount();
        Check.end("PromiseTest");
    }

    private static HerbWaters chain() {
        HerbWaters x = Check.town("village 16;village 0;village 8;channel 0 1 4;channel 1 2 8;leak 0 2;tap 2 4;"
                + "spring 0 8;filter 1 mint 1;feast 5;");
        Check.opinion(x, 0, "put mint 4;put rue day if day > 1;");
        return x;
    }

    private static void newObject() {
        HerbWaters x = new HerbWaters();
        int[] told = {0, 0, NONE, 20, 0, 0, 0, 0};
        for (int what = 0; what < told.length; what++) {
            Check.due("1: told " + what, x.told(what), told[what]);
        }
        for (int what = 0; what < 3; what++) {
            Check.due("1: count " + what, x.count(what), 0);
        }
        Check.due("1: fault", x.fault(), NONE);
        Check.due("1: status 0", x.status(0), 0);
        Check.due("1: status 1", x.status(1), 0);
        Check.missing("1: no village", () -> x.village(0, 0));
        Check.due("1: days", x.days(7), 7);
        Check.due("1: whom", x.whom(60), 0);
        Check.due("1: minds", x.minds(0), 1);
        Check.due("1: where", x.where(60), 0);
        Check.due("1: round", x.round(0), 1);
        Check.due("1: rest", x.rest(30, 99), 1);
        Check.due("1: span", x.span(0, 30, 16, 60, 0), 30);
        Check.due("1: please nobody", x.please(0), 0);
        Check.improper("1: please one", () -> x.please(1));
    }

    private static void feed() {
        HerbWaters x = new HerbWaters();
        for (int i = 1; i <= 30; i++) {
            Check.due("2: feed", x.feed(LEAST, MOST, -1, 0, 1), 20 * i);
        }
        Check.due("2: feed too much", x.feed(0, 0, 0, 0, 0), NONE);
        Check.due("2: nothing done", x.count(1), 600);
        Check.due("2: a first byte that can't stand there", x.town(600), -9);
        Check.due("2: empty", x.count(1), 0);
        int blanks = 0x20202020;
        Check.due("2: highest first", x.feed(0x76696c6c, 0x61676520, 0x34323b20, blanks, blanks), 20);
        x.town(20);
        Check.due("2: village 42", x.village(0, 0), 42);
        x.feed(0x76696c6c, 0x61676520, 0x34323b20, blanks, blanks);
        x.feed(0x76696c6c, 0x61676520, 0x34333b20, blanks, blanks);
        Check.due("2: behind what there is", x.town(40), 2);
    }

    private static void town() {
        HerbWaters x = chain();
        Check.book(x, "1 0;");
        x.please(1);
        x.contrary(2);
        x.grade(0, 2);
        x.days(3);
        x.image();
        Check.feed(x, "village 1;");
        Check.improper("3: n -1", () -> x.town(-1));
        Check.improper("3: n 21", () -> x.town(21));
        Check.improper("3: n least", () -> x.town(LEAST));
        Check.due("3: the tape stays", x.count(1), 20);
        Check.due("3: a fault by the zero bytes", x.town(20), -9);
        Check.due("3: its place", x.fault(), 10);
        Check.due("3: the days stay", x.told(4), 3);
        Check.due("3: the book stays", x.told(7), 1);
        Check.due("3: images stay", x.count(0), 1);
        Check.due("3: days to undo stay", x.count(2), 3);
        Check.feed(x, "village 9;village 3;");
        Check.due("3: a part of the tape", x.town(10), 1);
        Check.due("3: the tape is empty", x.count(1), 0);
        int[] told = {1, 0, NONE, 20, 0, 0, 0, 0};
        for (int what = 0; what < told.length; what++) {
            Check.due("3: told " + what, x.told(what), told[what]);
        }
        Check.due("3: no images", x.count(0), 0);
        Check.due("3: no grade", x.village(0, 8), 0);
        Check.due("3: no opinion", x.thinks(0, 0, 0, 0, 0, 0, 5), 0);
        Check.due("3: no days to undo", x.count(2), 0);
        Check.due("3: no sums", x.sums(0), 0);
        Check.due("3: an empty text", x.town(0), 0);
        Check.due("3: no villages", x.told(0), 0);
        Check.town(x, "village 1;village 2;spring 0 3;spring 0 4;lag 1 5;lag 1 2;frog 1;frog 1;leak 0 8;leak 0 1;"
                + "feast 0;feast 60;filter 0 mint 9;filter 0 mint 0;");
        Check.due("3: the last spring", x.village(0, 4), 4);
        Check.due("3: the last lag", x.village(1, 5), 2);
        Check.due("3: the last leak", x.village(0, 7), 7);
        Check.due("3: the last feast", x.told(3), 60);
        Check.opinion(x, 0, "put mint 8 if day = 1;");
        x.days(2);
        Check.due("3: the last filter", x.village(0, 1), 7);
    }

    /** Nothing of a town is left in the next one. */
    private static void secondTown() {
        HerbWaters x = Check.town("village 50;village 40;channel 0 1 3;channel 1 0 3;leak 0 2;leak 1 1;tap 1 4;spring 0 9;"
                + "spring 1 8;lag 0 5;lag 1 4;frog 0;frog 1;filter 0 mint 3;filter 1 rue 4;feast 7;");
        Check.opinion(x, 0, "put mint put+9;put rue 30;");
        Check.opinion(x, 1, "put sage 50;put mint 30;");
        Check.book(x, "5 1;");
        x.contrary(3);
        x.grade(1, 3);
        x.days(12);
        x.minds(0);
        x.round(0);
        String plain = "village 5;village 6;channel 0 1 8;tap 1 8;";
        HerbWaters y = Check.town(plain);
        Check.due("3: the next town", Check.town(x, plain), 2);
        Check.due("3: as new", java.util.Arrays.equals(picture(x), picture(y)));
        for (int what = 0; what < 4; what++) {
            Check.due("24: as new, " + what, x.minds(what), y.minds(what));
        }
        for (int v = 0; v < 2; v++) {
            Check.opinion(x, v, "put mint 9;put rue put;put sage mint;");
            Check.opinion(y, v, "put mint 9;put rue put;put sage mint;");
        }
        x.days(7);
        y.days(7);
        Check.due("3: and goes on as new", java.util.Arrays.equals(picture(x), picture(y)));
        Check.due("28: a round as new", x.round(0) * 1000 + x.round(1), y.round(0) * 1000 + y.round(1));
    }

    private static void opinion() {
        HerbWaters x = chain();
        x.days(2);
        Check.feed(x, "put mint 1;put rue 2;");
        Check.missing("4: village -1", () -> x.opinion(-1, 999));
        Check.missing("4: village 3", () -> x.opinion(3, 11));
        Check.improper("4: n -1", () -> x.opinion(0, -1));
        Check.improper("4: n beyond the tape", () -> x.opinion(0, 41));
        Check.due("4: the tape stays", x.count(1), 40);
        Check.due("4: parts", x.opinion(1, 11), 1);
        Check.due("4: the tape is empty", x.count(1), 0);
        Check.due("4: days stay", x.told(4), 2);
        Check.due("4: cups stay", x.sums(0), 10);
        Check.due("4: the opinion", x.thinks(1, 0, 0, 0, 0, 0, 0), 1);
        Check.due("4: only of this village", x.thinks(0, 0, 0, 0, 0, 0, 0), 4);
        Check.feed(x, " ".repeat(160));
        Check.improper("4: n 151", () -> x.opinion(0, 151));
        Check.due("4: n 150", x.opinion(0, 150), 0);
        Check.due("4: it puts nothing", x.thinks(0, 0, 0, 0, 0, 0, 0), 0);
        Check.due("4: empty tape", x.opinion(1, 0), 0);
        Check.improper("4: n 1 of an empty tape", () -> x.opinion(1, 1));
    }

    private static int value(HerbWaters x, String sum) {
        Check.opinion(x, 0, "put sage " + sum + ";");
        return x.thinks(0, 2, 50, 4, 9, 2, 3);
    }

    private static int holds(HerbWaters x, String condition) {
        return value(x, "1 if " + condition);
    }

    private static void opinionValues() {
        HerbWaters x = Check.town("village 7;spring 0 6;");
        Check.due("4: 99 at most", value(x, "999"), 99);
        Check.due("4: 0 at least", value(x, "2-3"), 0);
        Check.due("4: from the left", value(x, "10-3-2"), 5);
        Check.due("4: division from the left", value(x, "100/5/3"), 6);
        Check.due("4: products first", value(x, "2+3*4"), 14);
        Check.due("4: brackets", value(x, "(2+3)*4"), 20);
        Check.due("4: by 0", value(x, "7+9/0"), 7);
        Check.due("4: it cuts", value(x, "9+(1-8)/2"), 6);
        Check.due("4: it wraps below 0", value(x, "999*999*999*3"), 0);
        Check.due("4: it wraps", value(x, "(0-999*999*999*3)/999/999/99"), 13);
        Check.due("4: water", value(x, "water"), 50);
        Check.due("4: mint", value(x, "mint"), 4);
        Check.due("4: rue", value(x, "rue"), 9);
        Check.due("4: sage", value(x, "sage"), 2);
        Check.due("4: day", value(x, "day"), 3);
        Check.due("4: spring", value(x, "spring"), 6);
        Check.due("4: put", value(x, "put+8"), 8);
        Check.due("4: and ahead of or", holds(x, "1=1 or 1=1 and 1=2"), 1);
        Check.due("4: in brackets", holds(x, "[1=1 or 1=1] and 1=2"), 0);
        Check.due("4: not", holds(x, "not 1=2"), 1);
        Check.due("4: not goes with one", holds(x, "not 1=2 and 1=2"), 0);
        Check.due("4: not not", holds(x, "not not 1=2"), 0);
        Check.due("4: below", holds(x, "mint<4"), 0);
        Check.due("4: above", holds(x, "mint>3"), 1);
        Check.due("4: even", holds(x, "mint=4"), 1);
        Check.due("4: below 0", holds(x, "1-2<0"), 1);
        Check.due("4: the least by -1 wraps", holds(x, "512*512*512*16/(0-1)<0"), 1);
    }

    private static void book() {
        HerbWaters x = chain();
        x.days(4);
        Check.feed(x, "3 1;4 0;");
        Check.improper("5: n -1", () -> x.book(-1));
        Check.improper("5: n beyond the tape", () -> x.book(21));
        Check.due("5: the tape stays", x.count(1), 20);
        Check.due("5: lines", x.book(8), 2);
        Check.due("5: told", x.told(7), 2);
        Check.due("5: the tape is empty", x.count(1), 0);
        Check.due("5: days to undo stay", x.count(2), 4);
        Check.feed(x, " ".repeat(160));
        Check.improper("5: n 151", () -> x.book(151));
        Check.due("6: the latest text has none", x.fault(), NONE);
        Check.due("5: a fault", x.book(0) + Check.book(x, "1 9;"), -8);
        Check.due("6: its place", x.fault(), 2);
        Check.improper("5: refused", () -> x.book(1));
        Check.due("6: a refused text is none", x.fault(), 2);
        Check.due("5: no lines", x.book(0), 0);
        Check.due("6: none again", x.fault(), NONE);
    }

    private static void told() {
        HerbWaters x = chain();
        x.days(3);
        x.please(5);
        x.contrary(6);
        Check.book(x, "1 1;");
        int[] due = {3, 2, 2, 5, 3, 5, 6, 1};
        for (int what = 0; what < due.length; what++) {
            Check.due("7: told " + what, x.told(what), due[what]);
        }
        Check.improper("7: told -1", () -> x.told(-1));
        Check.improper("7: told 8", () -> x.told(8));
    }

    private static void village() {
        HerbWaters x = Check.town("village 40;village 7;channel 0 0 2;channel 0 1 1;channel 0 1 1;leak 0 1;tap 0 1;"
                + "spring 0 9;lag 0 5;frog 0;");
        Check.opinion(x, 0, "put mint 3;put rue 5;put sage 8;");
        x.grade(0, 3);
        int[] due = {40, 0, 0, 0, 9, 5, 1, 2, 3};
        for (int what = 0; what < due.length; what++) {
            Check.due("8: village 0, " + what, x.village(0, what), due[what]);
        }
        x.days(1);
        int[] later = {40 - 5 - 5 - 5 - 5 + 9, 1, 2, 4};
        for (int what = 0; what < later.length; what++) {
            Check.due("8: village 0 later, " + what, x.village(0, what), later[what]);
        }
        Check.due("8: village 1, parts", x.village(1, 7), 8);
        Check.due("8: village 1, frog", x.village(1, 6), 0);
        Check.due("8: village 1, water", x.village(1, 0), 17);
        Check.missing("8: village 2", () -> x.village(2, 9));
        Check.missing("8: village -1", () -> x.village(-1, 0));
        Check.improper("8: what 9", () -> x.village(0, 9));
        Check.improper("8: what -1", () -> x.village(0, -1));
    }

    /** Each channel cuts for itself, each village's cups go for themselves, all at once. */
    private static void flows() {
        HerbWaters x = Check.town("village 7;village 0;channel 0 1 4;channel 0 1 4;");
        x.days(1);
        Check.due("10: each channel cuts", x.village(0, 0), 1);
        Check.due("10: twice three", x.village(1, 0), 6);
        HerbWaters y = Check.town("village 8;village 16;channel 0 1 8;channel 1 0 8;");
        y.days(1);
        Check.due("10: all at once", y.village(0, 0), 16);
        Check.due("10: all at once, back", y.village(1, 0), 8);
        HerbWaters z = Check.town("village 0;village 0;channel 0 1 8;tap 1 4;");
        Check.opinion(z, 0, "put mint 1 if day = 1;");
        Check.opinion(z, 1, "put mint 1 if day = 2;");
        z.days(2);
        Check.due("10: two cups", z.village(1, 1), 2);
        z.days(1);
        Check.due("10: halves of single cups do not come", z.tap(1), 0);
        Check.due("10: they stay", z.village(1, 1), 2);
    }

    private static void led() {
        HerbWaters x = Check.town("village 0;village 0;channel 0 1 8;filter 1 mint 6;");
        Check.opinion(x, 0, "put mint 5;");
        Check.opinion(x, 1, "put mint 3;");
        x.days(2);
        Check.due("9: of the first, filtered first", x.led(1, 0, 0), 0);
        Check.due("9: of the second, filtered then", x.led(1, 0, 1), 5);
        Check.due("9: its own", x.led(0, 0, 0), 5);
        Check.due("9: none", x.led(0, 0, 1), 0);
        Check.due("9: no rue", x.led(1, 1, 1), 0);
        Check.due("13: filters took", x.sums(3), 6);
        Check.missing("9: village 2", () -> x.led(2, 0, 0));
        Check.missing("9: by 2, ahead of the herb", () -> x.led(0, 3, 2));
        Check.missing("9: by -1", () -> x.led(0, 0, -1));
        Check.improper("9: herb 3", () -> x.led(0, 3, 0));
        Check.improper("9: herb -1", () -> x.led(0, -1, 0));
    }

    private static void days() {
        HerbWaters x = Check.town("village 5;spring 0 3;");
        Check.improper("10: 0", () -> x.days(0));
        Check.improper("10: 100", () -> x.days(100));
        for (int i = 1; i <= 10; i++) {
            Check.due("10: days", x.days(99), 99 * i);
        }
        Check.due("10: no further", x.days(99), 999);
        Check.due("10: water", x.village(0, 0), 5 + 3 * 999);
        Check.due("10: at the end", x.days(1), 999);
        Check.due("10: water at the end", x.village(0, 0), 5 + 3 * 999);
        Check.due("37: to undo", x.count(2), 999);
        for (int i = 1; i <= 10; i++) {
            Check.due("11: undo", x.undo(99), 99);
            Check.due("11: water then", x.village(0, 0), 5 + 3 * (999 - 99 * i));
        }
        Check.due("11: the last", x.undo(99), 9);
        Check.due("11: day 0", x.told(4), 0);
        for (int i = 1; i <= 11; i++) {
            x.days(99);
        }
        Check.due("11: the last day", x.undo(1), 1);
        Check.due("11: water on the day ahead of it", x.village(0, 0), 5 + 3 * 998);
    }

    private static void undo() {
        HerbWaters x = chain();
        Check.opinion(x, 0, "put mint put + 1;");
        x.days(40);
        int[] then = picture(x);
        x.days(33);
        Check.improper("11: 0", () -> x.undo(0));
        Check.improper("11: 100", () -> x.undo(100));
        Check.due("11: undone", x.undo(33), 33);
        Check.due("11: all as it was", java.util.Arrays.equals(then, picture(x)));
        Check.due("37: left", x.count(2), 40);
        Check.due("11: by one", x.undo(1), 1);
        Check.due("11: the day", x.told(4), 39);
        x.days(1);
        Check.due("11: gone again", java.util.Arrays.equals(then, picture(x)));
        Check.opinion(x, 0, "put mint");
        Check.due("11: an opinion with a fault is not told", x.count(2), 40);
        Check.improper("11: refused please", () -> x.please(8));
        Check.improper("11: refused grade", () -> x.grade(0, 4));
        Check.improper("11: refused rest", () -> x.rest(0, 0));
        Check.due("11: restore of none", x.restore(), -1);
        Check.due("11: refused calls leave it", x.count(2), 40);
        x.image();
        Check.due("11: image leaves it", x.count(2), 40);
        Check.opinion(x, 0, "put mint 2;");
        barrier(x, "opinion");
        x.please(x.told(5));
        barrier(x, "please");
        x.contrary(0);
        barrier(x, "contrary");
        x.grade(0, 0);
        barrier(x, "grade");
        x.rest(1, 99);
        barrier(x, "rest");
        x.restore();
        barrier(x, "restore");
        Check.town(x, "village 1;");
        barrier(x, "town");
    }

    private static void barrier(HerbWaters x, String call) {
        Check.due("11: behind " + call, x.count(2), 0);
        Check.due("11: none undone behind " + call, x.undo(5), 0);
        x.days(2);
        Check.due("11: two undone behind " + call, x.undo(5), 2);
        x.days(3);
    }

    /** All that can be seen of the days gone by. */
    private static int[] picture(HerbWaters x) {
        int villages = x.told(0);
        java.util.List<Integer> all = new java.util.ArrayList<>();
        for (int what = 0; what < 5; what++) {
            all.add(x.tap(what));
            all.add(x.sums(what));
        }
        for (int v = 0; v < villages; v++) {
            for (int what = 0; what < 9; what++) {
                all.add(x.village(v, what));
            }
            for (int what = 0; what < 6; what++) {
                all.add(x.put(v, what));
            }
            for (int by = 0; by < 3 * villages; by++) {
                all.add(x.led(v, by % 3, by / 3));
            }
            for (int days = 0; days < 9; days++) {
                all.add(x.ahead(v, days, 1));
            }
        }
        for (int what = 4; what < 7; what++) {
            all.add(x.told(what));
        }
        return all.stream().mapToInt(Integer::intValue).toArray();
    }

    private static HerbWaters well() {
        HerbWaters x = Check.town("village 80;tap 0 2;leak 0 1;");
        Check.opinion(x, 0, "put mint 8;put sage 16;");
        return x;
    }

    private static void tap() {
        HerbWaters x = well();
        for (int what = 0; what < 5; what++) {
            Check.due("12: on day 0", x.tap(what), 0);
        }
        x.days(1);
        Check.due("12: water", x.tap(0), 20);
        Check.due("12: clear", x.tap(4), 0);
        x.days(1);
        int[] due = {12, 2, 0, 4, 5};
        for (int what = 0; what < 5; what++) {
            Check.due("12: on day 2, " + what, x.tap(what), due[what]);
        }
        Check.improper("12: -1", () -> x.tap(-1));
        Check.improper("12: 5", () -> x.tap(5));
    }

    private static void sums() {
        HerbWaters x = well();
        x.grade(0, 1);
        x.days(2);
        // 24 were put; then 2 and 4 came, 1 and 2 went, 1 of each was taken, 24 were put.
        int[] due = {48, 6, 3, 2, 37};
        for (int what = 0; what < 5; what++) {
            Check.due("13: " + what, x.sums(what), due[what]);
        }
        x.days(9);
        Check.due("13: none is lost", x.sums(0), x.sums(1) + x.sums(2) + x.sums(3) + x.sums(4));
        Check.improper("13: -1", () -> x.sums(-1));
        Check.improper("13: 5", () -> x.sums(5));
    }

    private static void put() {
        HerbWaters x = Check.town("village 0;village 0;channel 0 1 8;tap 1 8;");
        Check.opinion(x, 0, "put mint 8;put sage 16;");
        Check.opinion(x, 1, "put rue 3;");
        x.days(3);
        int[] first = {24, 0, 48, 8, 0, 16};
        int[] second = {0, 9, 0, 0, 6, 0};
        for (int what = 0; what < 6; what++) {
            Check.due("14: of 0, " + what, x.put(0, what), first[what]);
            Check.due("14: of 1, " + what, x.put(1, what), second[what]);
        }
        Check.missing("14: village 2", () -> x.put(2, 6));
        Check.improper("14: 6", () -> x.put(0, 6));
        Check.improper("14: -1", () -> x.put(0, -1));
    }

    private static void thinks() {
        HerbWaters x = Check.town("village 0;village 0;frog 1;");
        String opinion = "put mint 3;put mint water;put rue put+day;put sage mint*2 if rue > sage;";
        Check.opinion(x, 0, opinion);
        Check.opinion(x, 1, opinion);
        x.please(1);
        x.contrary(3);
        x.days(5);
        Check.due("15: both parts", x.thinks(0, 0, 9999, 0, 0, 0, 0), 102);
        Check.due("15: a frog halves each", x.thinks(1, 0, 9, 0, 0, 0, 0), 5);
        Check.due("15: nothing put ahead", x.thinks(1, 1, 0, 0, 0, 0, 999), 49);
        Check.due("15: that day", x.thinks(0, 1, 0, 0, 0, 0, 7), 7);
        Check.due("15: if so", x.thinks(0, 2, 0, 9, 1, 0, 0), 18);
        Check.due("15: if not so", x.thinks(0, 2, 0, 9, 1, 1, 0), 0);
        Check.missing("15: village 2", () -> x.thinks(2, 9, 0, 0, 0, 0, 0));
        Check.improper("15: herb 3", () -> x.thinks(0, 3, 0, 0, 0, 0, 0));
        Check.improper("15: herb -1", () -> x.thinks(0, -1, 0, 0, 0, 0, 0));
        Check.improper("15: water -1", () -> x.thinks(0, 0, -1, 0, 0, 0, 0));
        Check.improper("15: water 10000", () -> x.thinks(0, 0, 10000, 0, 0, 0, 0));
        Check.improper("15: mint 10000", () -> x.thinks(0, 0, 0, 10000, 0, 0, 0));
        Check.improper("15: rue -1", () -> x.thinks(0, 0, 0, 0, -1, 0, 0));
        Check.improper("15: sage 10000", () -> x.thinks(0, 0, 0, 0, 0, 10000, 0));
        Check.improper("15: day -1", () -> x.thinks(0, 0, 0, 0, 0, 0, -1));
        Check.improper("15: day 1000", () -> x.thinks(0, 0, 0, 0, 0, 0, 1000));
        Check.due("15: nothing changed", x.told(4), 5);
    }

    private static void lagsAndFrogs() {
        for (int lag = 0; lag <= 5; lag++) {
            HerbWaters x = Check.town("village 10;spring 0 1;lag 0 " + lag + ";");
            Check.opinion(x, 0, "put mint water;");
            for (int day = 1; day <= 12; day++) {
                int before = x.put(0, 0);
                x.days(1);
                int due = 10 + Math.max(0, day - lag);
                Check.due("10: lag " + lag + " on day " + day, x.put(0, 0) - before, due);
            }
        }
        HerbWaters own = Check.town("village 0;lag 0 1;village 0;");
        Check.opinion(own, 0, "put mint mint + 1;put mint mint;");
        Check.opinion(own, 1, "put mint mint + 1;put mint mint;");
        own.days(2);
        Check.due("10: behind (d) with a lag", own.village(0, 1), 1 + 3);
        Check.due("10: no part is in a basin yet", own.village(1, 1), 1 + 3);
        HerbWaters frog = Check.town("village 0;frog 0;channel 0 0 8;");
        Check.opinion(frog, 0, "put mint 3;put mint 5;put rue put;");
        frog.days(2);
        Check.due("10: a frog halves each part", frog.put(0, 0), 6);
        Check.due("10: put is what it put on the day ahead", frog.put(0, 1), 1);
    }

    private static void view() {
        HerbWaters x = well();
        int[] due = {0, 0, 5, 5};
        for (int days = 0; days < due.length; days++) {
            Check.due("16: view " + days, x.view(days), due[days]);
        }
        Check.due("17: water of now", x.ahead(0, 0, 0), 80);
        Check.due("17: water of tomorrow", x.ahead(0, 1, 0), 50);
        Check.due("17: mint in two days", x.ahead(0, 2, 1), 13);
        Check.due("17: rue in two days", x.ahead(0, 2, 2), 0);
        Check.due("17: sage in two days", x.ahead(0, 2, 3), 26);
        Check.due("17: asked, nothing changed", x.told(4) + x.sums(0) + x.count(2), 0);
        x.days(2);
        Check.due("16: view of now", x.view(0), 5);
        Check.due("16: far", x.view(99), 5);
        Check.improper("16: -1", () -> x.view(-1));
        Check.improper("16: 100", () -> x.view(100));
        Check.missing("17: village 1", () -> x.ahead(1, 100, 0));
        Check.improper("17: days 100", () -> x.ahead(0, 100, 0));
        Check.improper("17: days -1", () -> x.ahead(0, -1, 0));
        Check.improper("17: what 4", () -> x.ahead(0, 1, 4));
        Check.improper("17: what -1", () -> x.ahead(0, 1, -1));
    }

    private static void when() {
        HerbWaters x = Check.town("village 0;tap 0 8;");
        Check.opinion(x, 0, "put mint 1 if day = 3;put rue 1 if day = 99;put sage 1 if day = 102;");
        Check.due("18: clear tomorrow", x.when(0), 1);
        Check.due("18: mint", x.when(1), 4);
        Check.due("18: rue not in 99 days", x.when(2), NONE);
        Check.due("18: never", x.when(7), NONE);
        x.days(3);
        Check.due("18: from now on", x.when(1), 1);
        Check.due("18: rue", x.when(2), 97);
        Check.due("18: sage not in 99 days", x.when(4), NONE);
        x.days(1);
        Check.due("18: the 99th", x.when(4), 99);
        Check.due("18: not on the day that is", x.when(1), NONE);
        Check.improper("18: -1", () -> x.when(-1));
        Check.improper("18: 8", () -> x.when(8));
    }

    private static void please() {
        HerbWaters x = Check.town("village 0;village 0;");
        Check.opinion(x, 0, "put mint 2;put rue put;");
        Check.opinion(x, 1, "put sage 1;");
        x.days(1);
        Check.due("19: what it was", x.please(1), 0);
        x.days(2);
        Check.due("19: what it was then", x.please(2), 1);
        Check.due("19: nothing was put", x.put(0, 0), 2);
        Check.due("19: the other goes on", x.put(1, 2), 3);
        x.days(1);
        Check.due("19: on again", x.put(0, 0), 4);
        Check.due("19: nothing put on the day ahead", x.put(0, 1), 0);
        Check.due("19: now the other", x.put(1, 2), 3);
        Check.improper("19: bits of none", () -> x.please(4));
        Check.improper("19: negative", () -> x.please(-1));
        Check.improper("19: least", () -> x.please(LEAST));
        Check.due("19: as it was", x.told(5), 2);
    }

    private static void contrary() {
        HerbWaters x = Check.town("village 0;");
        Check.opinion(x, 0, "put mint 2;put rue 3;put sage 5;");
        Check.due("20: what it was", x.contrary(1), 0);
        x.days(1);
        Check.due("20: rue for mint", x.put(0, 1), 2);
        Check.due("20: mint for rue", x.put(0, 0), 3);
        Check.due("20: sage for sage", x.put(0, 2), 5);
        Check.due("20: thinks does not ask", x.thinks(0, 0, 0, 0, 0, 0, 0), 2);
        Check.due("20: what it was then", x.contrary(0), 1);
        x.days(1);
        Check.due("20: mint again", x.put(0, 0), 5);
        Check.improper("20: bits of none", () -> x.contrary(2));
        Check.improper("20: negative", () -> x.contrary(-1));
    }

    private static void whom() {
        HerbWaters x = Check.town("village 0;village 0;village 0;village 0;"
                + "channel 0 3 8;channel 1 3 8;channel 2 3 8;tap 3 8;feast 10;");
        Check.opinion(x, 0, "put mint 1;");
        Check.opinion(x, 1, "put rue 1 if day < 5;");
        Check.opinion(x, 2, "put sage 1 if day > 5;");
        Check.due("21: nothing has come by then", x.whom(2), 0);
        Check.due("21: two of them", x.whom(3), 3);
        Check.due("21: other two", x.whom(8), 5);
        Check.due("22: the feast", x.feast(), 5);
        x.please(10);
        Check.due("21: who is pleased is in it", x.whom(8), 15);
        Check.due("21: asked, nothing changed", x.told(5), 10);
        x.please(0);
        x.days(4);
        Check.due("21: too late", x.whom(2), NONE);
        Check.due("21: in time", x.whom(3), 1);
        Check.improper("21: 0", () -> x.whom(0));
        Check.improper("21: 61", () -> x.whom(61));
        HerbWaters y = Check.town("village 0;village 0;village 0;channel 0 2 4;channel 1 2 4;channel 2 2 4;tap 2 4;");
        Check.opinion(y, 0, "put mint 9;");
        Check.opinion(y, 1, "put mint 9;");
        Check.opinion(y, 2, "put mint 9 if mint > 0;");
        Check.due("21: all whose herbs come", y.whom(30), 3);
    }

    private static void feast() {
        HerbWaters x = Check.town("village 0;tap 0 8;feast 60;");
        Check.opinion(x, 0, "put mint 1;");
        Check.due("22: 60 off", x.feast(), 1);
        x.days(59);
        Check.due("22: too late to please", x.feast(), NONE);
        x.days(1);
        Check.due("22: it is today", x.feast(), NONE);
        x.days(1);
        Check.due("22: it is over", x.feast(), NONE);
        HerbWaters y = Check.town("village 0;feast 0;");
        Check.due("22: on day 0", y.feast(), NONE);
        HerbWaters z = Check.town("village 0;");
        z.days(19);
        Check.due("22: 20 without", z.feast(), 0);
        z.days(1);
        Check.due("22: on the 20th", z.feast(), NONE);
    }

    private static void filters() {
        HerbWaters x = Check.town("village 0;village 0;channel 0 1 8;tap 1 8;filter 1 mint 2;");
        Check.opinion(x, 0, "put mint 7;put rue 99;put rue 1;put sage 99;");
        Check.due("23: nothing has come by then", x.filters(0, 0, 2), 0);
        Check.due("23: besides the one that is there", x.filters(1, 0, 9), 5);
        Check.due("23: farther up", x.filters(0, 0, 9), NONE);
        Check.due("23: not by 99", x.filters(1, 1, 9), NONE);
        Check.due("23: by 99", x.filters(1, 2, 60), 99);
        Check.due("23: asked, nothing changed", x.view(3), 7);
        x.grade(1, 1);
        Check.due("23: besides grades", x.filters(1, 0, 9), 4);
        Check.missing("23: village 2", () -> x.filters(2, 3, 0));
        Check.improper("23: herb 3", () -> x.filters(0, 3, 1));
        Check.improper("23: herb -1", () -> x.filters(0, -1, 1));
        Check.improper("23: days 0", () -> x.filters(0, 0, 0));
        Check.improper("23: days 61", () -> x.filters(0, 0, 61));
    }

    private static HerbWaters tasting() {
        HerbWaters x = Check.town("village 0;village 0;village 0;channel 0 2 8;channel 1 2 8;tap 2 8;");
        Check.opinion(x, 0, "put mint 1;");
        Check.opinion(x, 1, "put mint 1;");
        return x;
    }

    private static void minds(String label, HerbWaters x, int count, int first, int all, int none) {
        Check.due("24: sets, " + label, x.minds(0), count);
        Check.due("24: the first, " + label, x.minds(1), first);
        Check.due("24: in all, " + label, x.minds(2), all);
        Check.due("24: in none, " + label, x.minds(3), none);
    }

    private static void minds() {
        HerbWaters x = tasting();
        minds("no book", x, 8, 0, 0, 0);
        Check.book(x, "3 1;");
        minds("mint", x, 2, 0, 0, 3);
        Check.book(x, "9 2;2 0;");
        minds("rue", x, 2, 3, 3, 0);
        Check.book(x, "3 3;");
        minds("both", x, 4, 1, 0, 0);
        x.please(7);
        x.grade(2, 3);
        x.contrary(3);
        x.days(5);
        minds("nobody is pleased, from day 0 on", x, 4, 1, 0, 0);
        Check.book(x, "3 3;4 2;");
        minds("no set", x, 0, NONE, 0, 0);
        Check.opinion(x, 1, "put sage 1;");
        Check.book(x, "99 5;");
        minds("an opinion is another one", x, 4, 0, 0, 1);
        Check.improper("24: -1", () -> x.minds(-1));
        Check.improper("24: 4", () -> x.minds(4));
    }

    private static void right() {
        HerbWaters x = tasting();
        Check.due("25: no lines", x.right(), 0);
        Check.book(x, "4 1;3 1;2 1;3 1;");
        Check.due("25: from the first on", x.right(), 2);
        x.please(7);
        x.grade(2, 3);
        x.days(9);
        Check.due("25: from day 0 on, nobody pleased", x.right(), 2);
        x.contrary(3);
        Check.due("25: by those contrary now", x.right(), 0);
        Check.book(x, "99 2;1 0;50 2;");
        Check.due("25: all", x.right(), 3);
    }

    private static void where() {
        HerbWaters x = Check.town("village 0;village 0;village 0;village 0;channel 0 1 8;channel 1 3 8;channel 2 3 8;");
        Check.opinion(x, 0, "put mint 1 if day = 1;");
        Check.opinion(x, 1, "put rue 1 if day = 1;");
        Check.opinion(x, 2, "put sage 1 if day = 1;");
        x.please(15);
        x.days(7);
        Check.due("27: where it is on day 1", x.tasted(0, 1), 1);
        Check.due("27: where it is on day 2", x.tasted(0, 2), 2);
        Check.due("27: where it stays", x.tasted(0, 60), 8);
        Check.due("27: of the last", x.tasted(3, 60), 0);
        Check.due("26: three of four", x.where(1), 7);
        // On day 2 they taste in 1, in 3, in 3 and nowhere.
        Check.due("26: two", x.where(2), 10);
        Check.due("26: all but the last taste in one", x.where(3), 8);
        Check.due("26: asked, nothing changed", x.told(4) + x.told(5), 22);
        HerbWaters y = Check.town("village 0;village 0;channel 0 1 4;");
        Check.opinion(y, 0, "put mint 9;");
        Check.due("27: it is in both", y.tasted(0, 5), 3);
        Check.due("26: the least bits", y.where(5), 1);
        Check.missing("27: village 2", () -> y.tasted(2, 0));
        Check.improper("27: day 0", () -> y.tasted(0, 0));
        Check.improper("27: day 61", () -> y.tasted(0, 61));
        Check.improper("26: day 0", () -> y.where(0));
        Check.improper("26: day 61", () -> y.where(61));
    }

    private static void round(String label, HerbWaters x, int behind, int ago) {
        Check.due("28: behind, " + label, x.round(0), behind);
        Check.due("28: ago, " + label, x.round(1), ago);
    }

    private static void round() {
        HerbWaters x = Check.town("village 8;village 0;village 0;channel 0 1 8;channel 1 2 8;channel 2 0 8;");
        round("three basins", x, 3, 3);
        x.days(5);
        round("from any day on", x, 3, 3);
        HerbWaters y = Check.town("village 16;tap 0 4;");
        // 16, 8, 4, 2, 1, 1
        round("till it stays", y, 5, 1);
        HerbWaters z = Check.town("village 0;tap 0 8;");
        Check.opinion(z, 0, "put mint 1 - put;");
        round("what was put", z, 2, 2);
        Check.opinion(z, 0, "put mint 1;");
        round("the first day is unlike", z, 2, 1);
        Check.opinion(z, 0, "put mint 1 if 1 = 2 and day = 3;");
        round("an opinion asks for day", z, NONE, NONE);
        z.please(1);
        round("pleased or not", z, NONE, NONE);
        HerbWaters far = Check.town("village 0;");
        Check.opinion(far, 0, "put mint 1 if mint < 198;");
        round("behind 200 days", far, 200, 1);
        Check.opinion(far, 0, "put mint 1 if mint < 199;");
        round("behind 201 days", far, NONE, NONE);
        far.days(1);
        round("from the next day on", far, 200, 1);
        HerbWaters w = Check.town("village 0;spring 0 1;");
        round("never", w, NONE, NONE);
        // The basin is 0, then 4 for ever; a lag of 3 remembers two days of it.
        HerbWaters lag = Check.town("village 0;tap 0 8;spring 0 4;lag 0 3;");
        round("a lag remembers", lag, 4, 1);
        lag.days(1);
        round("a lag remembers day 0", lag, 3, 1);
        HerbWaters shortLag = Check.town("village 0;tap 0 8;spring 0 4;lag 0 1;");
        round("a lag of 1 remembers nothing more", shortLag, 2, 1);
        HerbWaters who = Check.town("village 0;village 0;channel 0 1 8;channel 1 0 8;");
        Check.opinion(who, 0, "put mint 8;");
        Check.opinion(who, 1, "put mint 8;");
        who.days(1);
        Check.opinion(who, 0, "");
        Check.opinion(who, 1, "");
        round("cups by who put them, but nothing is put again", who, 3, 2);
        Check.improper("28: -1", () -> who.round(-1));
        Check.improper("28: 2", () -> who.round(2));
    }

    private static void grade() {
        HerbWaters x = Check.town("village 0;village 0;filter 0 mint 2;");
        Check.opinion(x, 0, "put mint 9 if day = 1;put rue 9 if day = 1;put sage 2 if day = 1;");
        x.days(1);
        Check.due("29: what it was", x.grade(0, 3), 0);
        Check.due("29: what it is", x.village(0, 8), 3);
        x.days(1);
        Check.due("29: with the filter", x.village(0, 1), 4);
        Check.due("29: of each herb", x.village(0, 2), 6);
        Check.due("29: no more than there is", x.village(0, 3), 0);
        Check.due("29: taken", x.sums(3), 10);
        Check.due("29: what it was then", x.grade(0, 0), 3);
        Check.due("29: the other", x.village(1, 8), 0);
        Check.missing("29: village 2", () -> x.grade(2, 9));
        Check.improper("29: 4", () -> x.grade(0, 4));
        Check.improper("29: -1", () -> x.grade(0, -1));
    }

    private static void loss() {
        HerbWaters x = Check.town("village 0;");
        Check.opinion(x, 0, "put mint 2;");
        // Grade 0: 2, 4, 6; grade 1: 2, 3, 4; grade 2: 2, 2, 2; grade 3 the same.
        Check.due("30: loss", x.loss(0, 3, 5, 0), 12);
        Check.due("30: wish without cost", x.loss(0, 3, 0, 1), 2);
        Check.due("30: wish by 1", x.loss(0, 3, 1, 1), 0);
        Check.due("30: wish by 2", x.loss(0, 3, 2, 1), 0);
        Check.due("30: wish over 30 days by 1", x.loss(0, 30, 1, 1), 2);
        x.grade(0, 1);
        Check.due("30: loss by its grade", x.loss(0, 3, 5, 0), 24);
        Check.due("30: the wish does not ask for it", x.loss(0, 3, 1, 1), 0);
        Check.due("30: asked, nothing changed", x.village(0, 8), 1);
        Check.missing("30: village 1", () -> x.loss(1, 0, 0, 0));
        Check.improper("30: days 0", () -> x.loss(0, 0, 0, 0));
        Check.improper("30: days 31", () -> x.loss(0, 31, 0, 0));
        Check.improper("30: c -1", () -> x.loss(0, 1, -1, 0));
        Check.improper("30: c 100", () -> x.loss(0, 1, 100, 0));
        Check.improper("30: what 2", () -> x.loss(0, 1, 0, 2));
        Check.improper("30: what -1", () -> x.loss(0, 1, 0, -1));
    }

    private static void rest() {
        HerbWaters x = Check.town("village 0;village 0;channel 0 1 8;");
        Check.opinion(x, 0, "put mint 2;");
        Check.due("31: it rests", x.rest(30, 1), 1);
        Check.due("31: all goes on anyway", x.village(0, 8), 0);
        Check.due("31: who gets it filters", x.village(1, 8), 2);
        Check.due("31: again", x.rest(30, 1), 1);
        Check.due("31: too dear", x.rest(30, 99), 1);
        Check.due("31: no filters", x.village(1, 8), 0);
        HerbWaters y = Check.town("village 0;village 0;channel 0 1 6;channel 1 0 6;");
        Check.opinion(y, 1, "put rue 3;");
        // Grades go 0 0, 0 1, 2 0, 0 1.
        Check.due("31: it does not rest", y.rest(4, 1), 0);
        Check.due("31: grade of the first", y.village(0, 8), 0);
        Check.due("31: grade of the second", y.village(1, 8), 1);
        HerbWaters z = Check.town("village 0;village 0;channel 0 1 7;channel 1 0 6;");
        Check.opinion(z, 1, "put rue 4;");
        Check.due("31: it comes back to the beginning", z.rest(4, 1), 0);
        Check.due("31: the first as at the beginning", z.village(0, 8), 0);
        Check.due("31: the second as at the beginning", z.village(1, 8), 0);
        Check.improper("31: days 0", () -> x.rest(0, 0));
        Check.improper("31: days 31", () -> x.rest(31, 0));
        Check.improper("31: c -1", () -> x.rest(1, -1));
        Check.improper("31: c 100", () -> x.rest(1, 100));
    }

    private static HerbWaters dry() {
        HerbWaters x = Check.town("village 0;village 0;spring 0 10;spring 1 20;channel 0 1 8;tap 1 8;");
        Check.opinion(x, 1, "put mint 1 if water > 10;");
        return x;
    }

    /** Springs of dry() by a seed: what comes from the tap in all. */
    private static int dryWater(int seed, int q, int days) {
        int s = seed;
        int first = 0;
        int second = 0;
        int came = 0;
        for (int d = 0; d < days; d++) {
            came += second;
            second = first;
            first = 0;
            s = s * 1103515245 + 12345;
            first += (s >> 16 & 15) < q ? 0 : 10;
            s = s * 1103515245 + 12345;
            second += (s >> 16 & 15) < q ? 0 : 20;
        }
        return came;
    }

    private static void drought() {
        HerbWaters x = dry();
        Check.due("32: no drought", x.drought(1, 0, 3, 1), 20 + 30);
        Check.due("32: no drought, view", x.drought(1, 0, 3, 0), 1);
        Check.due("32: nothing comes", x.drought(1, 16, 60, 1), 0);
        Check.due("32: nothing comes, view", x.drought(1, 16, 60, 0), 0);
        for (int seed = -3; seed < 9; seed++) {
            int s = seed * 715827882;
            Check.due("32: by seed " + s, x.drought(s, 7, 20, 1), dryWater(s, 7, 20));
        }
        Check.due("32: asked, nothing changed", x.ahead(0, 5, 0), 10);
        Check.improper("32: q -1", () -> x.drought(1, -1, 1, 0));
        Check.improper("32: q 17", () -> x.drought(1, 17, 1, 0));
        Check.improper("32: days 0", () -> x.drought(1, 1, 0, 0));
        Check.improper("32: days 61", () -> x.drought(1, 1, 61, 0));
        Check.improper("32: what 2", () -> x.drought(1, 1, 1, 2));
        Check.improper("32: what -1", () -> x.drought(1, 1, 1, -1));
    }

    private static void span() {
        HerbWaters x = dry();
        int least = MOST;
        int most = 0;
        int clear = 0;
        for (int i = 0; i < 30; i++) {
            int seed = MOST - 9 + i;
            least = Math.min(least, dryWater(seed, 9, 12));
            most = Math.max(most, dryWater(seed, 9, 12));
            clear += x.drought(seed, 9, 12, 0) == 0 ? 1 : 0;
        }
        Check.due("33: some are clear, some are not", clear > 0 && clear < 30);
        Check.due("33: clear", x.span(MOST - 9, 30, 9, 12, 0), clear);
        Check.due("33: least", x.span(MOST - 9, 30, 9, 12, 1), least);
        Check.due("33: most", x.span(MOST - 9, 30, 9, 12, 2), most);
        Check.due("33: of one", x.span(5, 1, 9, 12, 1), x.span(5, 1, 9, 12, 2));
        Check.improper("33: many 0", () -> x.span(1, 0, 1, 1, 0));
        Check.improper("33: many 31", () -> x.span(1, 31, 1, 1, 0));
        Check.improper("33: q -1", () -> x.span(1, 1, -1, 1, 0));
        Check.improper("33: q 17", () -> x.span(1, 1, 17, 1, 0));
        Check.improper("33: days 0", () -> x.span(1, 1, 1, 0, 0));
        Check.improper("33: days 61", () -> x.span(1, 1, 1, 61, 0));
        Check.improper("33: what 3", () -> x.span(1, 1, 1, 1, 3));
        Check.improper("33: what -1", () -> x.span(1, 1, 1, 1, -1));
    }

    private static void images() {
        HerbWaters x = Check.town("village 9;village 0;channel 0 1 4;tap 1 2;leak 0 1;spring 0 7;lag 1 4;filter 1 rue 1;");
        Check.opinion(x, 0, "put mint put + 1;put rue 9;");
        Check.opinion(x, 1, "put sage mint;");
        Check.due("35: none", x.restore(), -1);
        x.please(2);
        x.days(3);
        Check.due("34: one", x.image(), 1);
        int[] first = picture(x);
        x.please(0);
        x.contrary(1);
        x.grade(1, 2);
        x.days(9);
        Check.due("34: two", x.image(), 2);
        int[] second = picture(x);
        x.grade(0, 1);
        Check.due("34: three", x.image(), 3);
        Check.due("34: there are three", x.image(), -1);
        Check.due("37: three", x.count(0), 3);
        Check.book(x, "7 1;");
        x.days(50);
        Check.due("35: two left", x.restore(), 2);
        Check.due("35: the grade", x.village(0, 8), 1);
        Check.due("35: one left", x.restore(), 1);
        Check.due("35: as in the second", java.util.Arrays.equals(second, picture(x)));
        Check.missing("36: refused", () -> x.put(2, 0));
        Check.due("35: none left", x.restore(), 0);
        Check.due("35: as in the first", java.util.Arrays.equals(first, picture(x)));
        Check.due("35: the book is not of it", x.told(7), 1);
        Check.due("36: no image keeps it", x.status(0), 1);
        Check.due("35: none to be undone", x.count(2), 0);
        x.image();
        Check.opinion(x, 0, "put mint 77;");
        x.restore();
        Check.due("35: opinions are not of it", x.thinks(0, 0, 0, 0, 0, 0, 0), 77);
    }

    private static void statusAndCount() {
        HerbWaters x = chain();
        Check.missing("36: refused", () -> x.village(3, 99));
        Check.missing("36: refused", () -> x.led(0, 9, 3));
        Check.improper("36: refused", () -> x.village(0, 99));
        Check.improper("36: refused", () -> x.days(0));
        Check.improper("36: refused", () -> x.span(0, 0, -1, 0, 9));
        Check.due("36: none such", x.status(0), 2);
        Check.due("36: no such number", x.status(1), 3);
        Check.due("36: others", x.status(2), NONE);
        Check.due("36: others below", x.status(-1), NONE);
        Check.due("37: others", x.count(3), NONE);
        Check.due("37: others below", x.count(-1), NONE);
        Check.due("36: those count not", x.status(1), 3);
        Check.town(x, "village 1;");
        Check.due("36: a town keeps it", x.status(1), 3);
        x.feed(0, 0, 0, 0, 0);
        Check.due("37: bytes", x.count(1), 20);
        x.days(4);
        Check.due("37: days", x.count(2), 4);
        x.image();
        Check.due("37: images", x.count(0), 1);
    }
}
