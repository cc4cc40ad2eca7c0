import java.lang.management.ManagementFactory;

/** All calls of a run live in one room: how much a run of the dearest calls makes. */
public final class RoomTest {
    private static final com.sun.management.ThreadMXBean THREADS =
            (com.sun.management.ThreadMXBean) ManagementFactory.getThreadMXBean();

    public static void main(String[] args) {
        String town = largeTown();
        String opinion = "put mint mint+rue*2-sage/3+9 if [water>5 or mint<3] and not mint=rue;"
                + "put rue water/3+put-mint*2 if mint<500 or rue>(water+2*2);";
        Check.due("the town is short enough", town.length() <= 600 && opinion.length() <= 150);
        run(town, opinion);
        long before = THREADS.getThreadAllocatedBytes(Thread.currentThread().getId());
        int calls = run(town, opinion);
        long made = THREADS.getThreadAllocatedBytes(Thread.currentThread().getId()) - before;
        System.out.println(calls + " calls made " + made + " bytes");
        Check.due("calls", calls > 400 && calls <= 512);
        // Four bytes an element: a tenth of the room of 7.3 million.
        Check.due("the room", made < 730000L * 4);
        Check.end("RoomTest");
    }

    private static String largeTown() {
        StringBuilder town = new StringBuilder();
        for (int v = 0; v < 9; v++) {
            town.append("village 50;");
        }
        for (int v = 0; v < 9; v++) {
            town.append("channel ").append(v).append(' ').append((v + 1) % 9).append(" 2;");
            town.append("channel ").append(v).append(' ').append((v + 4) % 9).append(" 2;");
            town.append("spring ").append(v).append(" 9;");
        }
        return town.append("lag 3 5;tap 8 1;").toString();
    }

    private static int run(String town, String opinion) {
        HerbWaters x = new HerbWaters();
        Check.town(x, town);
        int calls = (town.length() + 19) / 20 + 1;
        for (int v = 0; v < 9; v++) {
            Check.opinion(x, v, opinion);
            calls += (opinion.length() + 19) / 20 + 1;
        }
        Check.book(x, "20 7;5 0;");
        calls += 2;
        for (int i = 0; i < 16; i++) {
            x.days(60);
            x.undo(3);
            x.days(3);
            x.whom(2);
            x.feast();
            x.minds(0);
            x.right();
            x.where(9);
            x.round(0);
            x.filters(8, 0, 9);
            x.loss(1, 30, 2, 1);
            x.drought(i, 8, 60, 0);
            x.span(i, 30, 8, 9, 2);
            x.image();
            x.view(99);
            x.when(6);
            x.thinks(1, 1, 1, 1, 1, 1, 1);
            x.tap(4);
            x.sums(4);
            calls += 19;
        }
        x.rest(30, 1);
        x.restore();
        return calls + 2;
    }
}
