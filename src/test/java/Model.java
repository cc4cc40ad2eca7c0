import java.util.ArrayList;
import java.util.Arrays;
import java.util.HashMap;
import java.util.List;
import java.util.Map;
import java.util.NoSuchElementException;
import java.util.TreeMap;

/**
 * The document once more, in the slowest and plainest way: whole histories, trees, no set left out.
 * ModelTest compares HerbWaters with it.
 */
final class Model {
    static final List<String> HERBS = List.of("mint", "rue", "sage");

    /** A fault of a text. */
    private static final class Fault extends RuntimeException {
        private static final long serialVersionUID = 1L;
        final int kind;
        final int place;

        Fault(int kind, int place) {
            this.kind = kind;
            this.place = place;
        }
    }

    interface Num {
        int of(Map<String, Integer> sight);
    }

    interface Cond {
        boolean of(Map<String, Integer> sight);
    }

    record Part(int herb, Num sum, Cond cond) { }

    record Channel(int from, int to, int parts) { }

    record Line(int day, int view) { }

    /** kind: w word, n number, s any other byte, e end. */
    record Token(char kind, String text, int place) {
        int value() {
            String digits = text.replaceFirst("^0+(?=.)", "");
            return digits.length() > 7 ? 9999999 : Integer.parseInt(digits);
        }
    }

    static final class Town {
        final List<Integer> waters = new ArrayList<>();
        final List<Channel> channels = new ArrayList<>();
        final Map<Integer, Integer> springs = new HashMap<>();
        final Map<Integer, Integer> leaks = new HashMap<>();
        final Map<Integer, Integer> lags = new HashMap<>();
        final Map<Integer, Boolean> frogs = new HashMap<>();
        final Map<String, Integer> filters = new HashMap<>();
        int tap = -1;
        int tapParts = 0;
        int feast = 20;

        int size() {
            return waters.size();
        }

        int used(int village, boolean withLeak) {
            int sum = withLeak ? leaks.getOrDefault(village, 0) : 0;
            sum += tap == village ? tapParts : 0;
            for (Channel c : channels) {
                sum += c.from == village ? c.parts : 0;
            }
            return sum;
        }
    }

    /** All that days change. */
    static final class State {
        int day;
        int pleased;
        int contrary;
        int[] grades;
        int[] water;
        int[][][] herbs;
        List<int[][]> history = new ArrayList<>();
        int[] latest;
        int[][] put;
        int[][] came;
        int[] tap = new int[4];
        int gardens;
        int taken;

        State copy() {
            State s = new State();
            s.day = day;
            s.pleased = pleased;
            s.contrary = contrary;
            s.grades = grades.clone();
            s.water = water.clone();
            s.herbs = new int[herbs.length][][];
            for (int v = 0; v < herbs.length; v++) {
                s.herbs[v] = deep(herbs[v]);
            }
            s.history = new ArrayList<>(history);
            s.latest = latest.clone();
            s.put = deep(put);
            s.came = deep(came);
            s.tap = tap.clone();
            s.gardens = gardens;
            s.taken = taken;
            return s;
        }

        private static int[][] deep(int[][] a) {
            int[][] b = new int[a.length][];
            for (int i = 0; i < a.length; i++) {
                b[i] = a[i].clone();
            }
            return b;
        }

        int herb(int v, int h) {
            return Arrays.stream(herbs[v][h]).sum();
        }

        int view() {
            return (tap[1] > 0 ? 1 : 0) + (tap[2] > 0 ? 2 : 0) + (tap[3] > 0 ? 4 : 0);
        }

        int[][] totals() {
            int[][] t = new int[water.length][];
            for (int v = 0; v < t.length; v++) {
                t[v] = new int[] {water[v], herb(v, 0), herb(v, 1), herb(v, 2)};
            }
            return t;
        }
    }

    /** What is other than usual while something is asked. */
    static final class Odds {
        int alone = -1;
        int filterVillage = -1;
        int filterHerb = -1;
        int filterCups = 0;
        boolean dry = false;
        int seed = 0;
        int q = 0;
    }

    private final List<Integer> tape = new ArrayList<>();
    private Town town = new Town();
    private final Map<Integer, List<Part>> opinions = new TreeMap<>();
    private final Map<Integer, Boolean> daily = new HashMap<>();
    private List<Line> book = new ArrayList<>();
    private State now = start();
    private final List<State> undoable = new ArrayList<>();
    private final List<State> images = new ArrayList<>();
    private int faultPlace = -1;
    private int missing = 0;
    private int improper = 0;

    // ---- texts

    private List<Token> tokens(int n) {
        List<Token> all = new ArrayList<>();
        int i = 0;
        while (i < n) {
            int b = tape.get(i);
            int j = i + 1;
            if (b >= 'a' && b <= 'z') {
                while (j < n && tape.get(j) >= 'a' && tape.get(j) <= 'z') {
                    j++;
                }
                all.add(new Token('w', text(i, j), i));
            } else if (b >= '0' && b <= '9') {
                while (j < n && tape.get(j) >= '0' && tape.get(j) <= '9') {
                    j++;
                }
                all.add(new Token('n', text(i, j), i));
            } else if (b != 32) {
                all.add(new Token('s', text(i, j), i));
            }
            i = j;
        }
        all.add(new Token('e', "", n));
        return all;
    }

    private String text(int i, int j) {
        StringBuilder sb = new StringBuilder();
        for (int k = i; k < j; k++) {
            sb.append((char) (int) tape.get(k));
        }
        return sb.toString();
    }

    /** Goes along tokens. */
    static final class Cursor {
        final List<Token> all;
        int at = 0;
        int open = 0;
        boolean day = false;

        Cursor(List<Token> all) {
            this.all = all;
        }

        Token peek() {
            return all.get(at);
        }

        boolean is(String text) {
            return peek().kind != 'e' && peek().text.equals(text);
        }

        void must(String text) {
            if (!is(text)) {
                throw new Fault(1, peek().place);
            }
            at++;
        }

        int num(int least, int most) {
            Token t = peek();
            if (t.kind != 'n') {
                throw new Fault(1, t.place);
            }
            if (t.value() < least || t.value() > most) {
                throw new Fault(2, t.place);
            }
            at++;
            return t.value();
        }

        int herb() {
            int h = peek().kind == 'w' ? HERBS.indexOf(peek().text) : -1;
            if (h < 0) {
                throw new Fault(1, peek().place);
            }
            at++;
            return h;
        }

        void opening() {
            if (open == 6) {
                throw new Fault(3, peek().place);
            }
            open++;
            at++;
        }
    }

    private static Town parseTown(Cursor c) {
        Town t = new Town();
        int clauses = 0;
        while (c.peek().kind != 'e') {
            Token w = c.peek();
            if (!List.of("village", "channel", "spring", "leak", "tap", "lag", "frog", "filter", "feast")
                    .contains(w.text)) {
                throw new Fault(1, w.place);
            }
            if (clauses == 60 || w.text.equals("village") && t.size() == 9
                    || w.text.equals("channel") && t.channels.size() == 20) {
                throw new Fault(3, w.place);
            }
            if (w.text.equals("tap") && t.tap >= 0) {
                throw new Fault(4, w.place);
            }
            c.at++;
            parseClause(c, t, w.text);
            c.must(";");
            clauses++;
        }
        return t;
    }

    private static void parseClause(Cursor c, Town t, String word) {
        if (word.equals("village")) {
            t.waters.add(c.num(0, 99));
            return;
        }
        if (word.equals("feast")) {
            t.feast = c.num(0, 60);
            return;
        }
        int k = c.num(0, t.size() - 1);
        if (word.equals("frog")) {
            t.frogs.put(k, true);
        } else if (word.equals("channel")) {
            int b = c.num(0, t.size() - 1);
            Token p = c.peek();
            int parts = c.num(1, 8);
            if (t.used(k, true) + parts > 8) {
                throw new Fault(2, p.place);
            }
            t.channels.add(new Channel(k, b, parts));
        } else if (word.equals("tap")) {
            Token p = c.peek();
            int parts = c.num(1, 8);
            if (t.used(k, true) + parts > 8) {
                throw new Fault(2, p.place);
            }
            t.tap = k;
            t.tapParts = parts;
        } else if (word.equals("leak")) {
            Token p = c.peek();
            int parts = c.num(0, 8);
            if (t.used(k, false) + parts > 8) {
                throw new Fault(2, p.place);
            }
            t.leaks.put(k, parts);
        } else if (word.equals("spring")) {
            t.springs.put(k, c.num(0, 99));
        } else if (word.equals("lag")) {
            t.lags.put(k, c.num(0, 5));
        } else {
            int h = c.herb();
            t.filters.put(k + " " + h, c.num(0, 99));
        }
    }

    private static List<Part> parseOpinion(Cursor c) {
        List<Part> parts = new ArrayList<>();
        while (c.peek().kind != 'e') {
            if (!c.is("put")) {
                throw new Fault(1, c.peek().place);
            }
            if (parts.size() == 6) {
                throw new Fault(3, c.peek().place);
            }
            c.at++;
            int h = c.herb();
            Num e = sum(c);
            Cond cond = s -> true;
            if (c.is("if")) {
                c.at++;
                cond = any(c);
            }
            c.must(";");
            parts.add(new Part(h, e, cond));
        }
        return parts;
    }

    private static Cond any(Cursor c) {
        Cond left = every(c);
        while (c.is("or")) {
            c.at++;
            Cond a = left;
            Cond b = every(c);
            left = s -> a.of(s) || b.of(s);
        }
        return left;
    }

    private static Cond every(Cursor c) {
        Cond left = test(c);
        while (c.is("and")) {
            c.at++;
            Cond a = left;
            Cond b = test(c);
            left = s -> a.of(s) && b.of(s);
        }
        return left;
    }

    private static Cond test(Cursor c) {
        if (c.is("not")) {
            c.opening();
            Cond a = test(c);
            c.open--;
            return s -> !a.of(s);
        }
        if (c.is("[")) {
            c.opening();
            Cond a = any(c);
            c.must("]");
            c.open--;
            return a;
        }
        Num a = sum(c);
        String sign = c.peek().text;
        if (c.peek().kind != 's' || !"<>=".contains(sign)) {
            throw new Fault(1, c.peek().place);
        }
        c.at++;
        Num b = sum(c);
        if (sign.equals("<")) {
            return s -> a.of(s) < b.of(s);
        }
        return sign.equals(">") ? s -> a.of(s) > b.of(s) : s -> a.of(s) == b.of(s);
    }

    private static Num sum(Cursor c) {
        Num left = product(c);
        while (c.is("+") || c.is("-")) {
            boolean plus = c.is("+");
            c.at++;
            Num a = left;
            Num b = product(c);
            left = plus ? s -> a.of(s) + b.of(s) : s -> a.of(s) - b.of(s);
        }
        return left;
    }

    private static Num product(Cursor c) {
        Num left = value(c);
        while (c.is("*") || c.is("/")) {
            boolean times = c.is("*");
            c.at++;
            Num a = left;
            Num b = value(c);
            left = times ? s -> a.of(s) * b.of(s)
                    : s -> b.of(s) == 0 ? 0 : (int) ((long) a.of(s) / b.of(s));
        }
        return left;
    }

    private static Num value(Cursor c) {
        Token t = c.peek();
        if (c.is("(")) {
            c.opening();
            Num e = sum(c);
            c.must(")");
            c.open--;
            return e;
        }
        if (t.kind == 'n') {
            int n = c.num(0, 999);
            return s -> n;
        }
        if (!List.of("mint", "rue", "sage", "water", "day", "put", "spring").contains(t.text)) {
            throw new Fault(1, t.place);
        }
        c.at++;
        c.day |= t.text.equals("day");
        return s -> s.get(t.text);
    }

    private static List<Line> parseBook(Cursor c) {
        List<Line> lines = new ArrayList<>();
        while (c.peek().kind != 'e') {
            Token t = c.peek();
            int day = c.num(1, 99);
            if (lines.size() == 12) {
                throw new Fault(3, t.place);
            }
            lines.add(new Line(day, c.num(0, 7)));
            c.must(";");
        }
        return lines;
    }

    // ---- days

    private State start() {
        State s = new State();
        int n = town.size();
        s.grades = new int[n];
        s.water = new int[n];
        s.herbs = new int[n][3][n];
        s.latest = new int[n];
        s.put = new int[n][3];
        s.came = new int[n][3];
        for (int v = 0; v < n; v++) {
            s.water[v] = town.waters.get(v);
        }
        s.history.add(s.totals());
        return s;
    }

    private static int parts(int cups, int parts) {
        return (int) Math.floor(cups * parts / 8.0);
    }

    private void day(State s, Odds odds) {
        int n = town.size();
        State old = s.copy();
        s.day++;
        s.tap = new int[4];
        for (int v = 0; v < n; v++) {
            for (Channel c : town.channels) {
                if (c.from == v) {
                    move(s, old, v, c.parts, c.to);
                }
            }
            if (town.tap == v) {
                s.tap[0] = parts(old.water[v], town.tapParts);
                for (int h = 0; h < 3; h++) {
                    for (int by = 0; by < n; by++) {
                        int m = parts(old.herbs[v][h][by], town.tapParts);
                        s.tap[1 + h] += m;
                        s.came[by][h] += m;
                    }
                }
                move(s, old, v, town.tapParts, -1);
            }
            int leak = town.leaks.getOrDefault(v, 0);
            s.gardens += move(s, old, v, leak, -1);
        }
        for (int v = 0; v < n; v++) {
            boolean comes = true;
            if (odds.dry) {
                odds.seed = (int) (odds.seed * 1103515245L + 12345L);
                comes = Math.floorMod(odds.seed >> 16, 16) >= odds.q;
            }
            s.water[v] += comes ? town.springs.getOrDefault(v, 0) : 0;
        }
        for (int v = 0; v < n; v++) {
            for (int h = 0; h < 3; h++) {
                int most = town.filters.getOrDefault(v + " " + h, 0) + s.grades[v];
                most += odds.filterVillage == v && odds.filterHerb == h ? odds.filterCups : 0;
                for (int cup = 0; cup < most; cup++) {
                    for (int by = 0; by < n; by++) {
                        if (s.herbs[v][h][by] > 0) {
                            s.herbs[v][h][by]--;
                            s.taken++;
                            break;
                        }
                    }
                }
            }
        }
        int[][] fresh = new int[n][];
        for (int v = 0; v < n; v++) {
            boolean silent = (s.pleased >> v & 1) == 1 || odds.alone >= 0 && odds.alone != v;
            int lag = town.lags.getOrDefault(v, 0);
            int[] basin = lag == 0 ? s.totals()[v] : s.history.get(Math.max(0, s.day - lag))[v];
            fresh[v] = silent ? new int[3] : think(v, basin, s.day, s.latest[v]);
            if ((s.contrary >> v & 1) == 1) {
                fresh[v] = new int[] {fresh[v][1], fresh[v][0], fresh[v][2]};
            }
        }
        for (int v = 0; v < n; v++) {
            s.latest[v] = Arrays.stream(fresh[v]).sum();
            for (int h = 0; h < 3; h++) {
                s.herbs[v][h][v] += fresh[v][h];
                s.put[v][h] += fresh[v][h];
            }
        }
        s.history.add(s.totals());
    }

    /** Leads parts of a basin away, to no basin if to is -1: how many cups of herbs. */
    private int move(State s, State old, int v, int parts, int to) {
        int m = parts(old.water[v], parts);
        s.water[v] -= m;
        if (to >= 0) {
            s.water[to] += m;
        }
        int sum = 0;
        for (int h = 0; h < 3; h++) {
            for (int by = 0; by < town.size(); by++) {
                int cups = parts(old.herbs[v][h][by], parts);
                s.herbs[v][h][by] -= cups;
                sum += cups;
                if (to >= 0) {
                    s.herbs[to][h][by] += cups;
                }
            }
        }
        return sum;
    }

    private int[] think(int v, int[] basin, int day, int ahead) {
        Map<String, Integer> sight = new HashMap<>();
        sight.put("water", basin[0]);
        sight.put("mint", basin[1]);
        sight.put("rue", basin[2]);
        sight.put("sage", basin[3]);
        sight.put("day", day);
        sight.put("put", ahead);
        sight.put("spring", town.springs.getOrDefault(v, 0));
        int[] cups = new int[3];
        for (Part p : opinions.getOrDefault(v, List.of())) {
            int e = p.cond.of(sight) ? Math.min(99, Math.max(0, p.sum.of(sight))) : 0;
            cups[p.herb] += town.frogs.containsKey(v) ? e / 2 : e;
        }
        return cups;
    }

    private State run(State from, int days) {
        return run(from, days, new Odds());
    }

    private State run(State from, int days, Odds odds) {
        State s = from.copy();
        for (int i = 0; i < days; i++) {
            day(s, odds);
        }
        return s;
    }

    // ---- the face

    private void village(boolean there) {
        if (!there) {
            missing++;
            throw new NoSuchElementException();
        }
    }

    private void village(int v) {
        village(v >= 0 && v < town.size());
    }

    private void in(int n, int least, int most) {
        if (n < least || n > most) {
            improper++;
            throw new IllegalArgumentException();
        }
    }

    private void bits(int set) {
        if ((set & ~((1 << town.size()) - 1)) != 0) {
            improper++;
            throw new IllegalArgumentException();
        }
    }

    int feed(int a, int b, int c, int d, int e) {
        if (tape.size() > 580) {
            return -1;
        }
        for (int number : new int[] {a, b, c, d, e}) {
            for (int i = 3; i >= 0; i--) {
                tape.add((int) ((number & 0xffffffffL) / (1L << 8 * i) % 256));
            }
        }
        return tape.size();
    }

    int town(int n) {
        in(n, 0, tape.size());
        try {
            town = parseTown(new Cursor(tokens(n)));
        } catch (Fault f) {
            tape.clear();
            faultPlace = f.place;
            return f.kind - 10;
        }
        tape.clear();
        faultPlace = -1;
        opinions.clear();
        daily.clear();
        book.clear();
        images.clear();
        undoable.clear();
        now = start();
        return town.size();
    }

    int opinion(int v, int n) {
        village(v);
        in(n, 0, Math.min(150, tape.size()));
        Cursor c = new Cursor(tokens(n));
        tape.clear();
        try {
            List<Part> parts = parseOpinion(c);
            opinions.put(v, parts);
        } catch (Fault f) {
            faultPlace = f.place;
            return f.kind - 10;
        }
        daily.put(v, c.day);
        faultPlace = -1;
        undoable.clear();
        return opinions.get(v).size();
    }

    int book(int n) {
        in(n, 0, Math.min(150, tape.size()));
        Cursor c = new Cursor(tokens(n));
        tape.clear();
        try {
            book = parseBook(c);
        } catch (Fault f) {
            faultPlace = f.place;
            return f.kind - 10;
        }
        faultPlace = -1;
        return book.size();
    }

    int fault() {
        return faultPlace;
    }

    int told(int what) {
        in(what, 0, 7);
        return new int[] {town.size(), town.channels.size(), town.tap, town.feast, now.day, now.pleased,
            now.contrary, book.size()}[what];
    }

    int village(int v, int what) {
        village(v);
        in(what, 0, 8);
        return new int[] {now.water[v], now.herb(v, 0), now.herb(v, 1), now.herb(v, 2),
            town.springs.getOrDefault(v, 0), town.lags.getOrDefault(v, 0), town.frogs.containsKey(v) ? 1 : 0,
            8 - town.used(v, true), now.grades[v]}[what];
    }

    int led(int v, int herb, int by) {
        village(v);
        village(by);
        in(herb, 0, 2);
        return now.herbs[v][herb][by];
    }

    int days(int n) {
        in(n, 1, 99);
        for (int i = 0; i < n && now.day < 999; i++) {
            undoable.add(now.copy());
            day(now, new Odds());
        }
        return now.day;
    }

    int undo(int n) {
        in(n, 1, 99);
        int k = 0;
        while (k < n && !undoable.isEmpty()) {
            now = undoable.remove(undoable.size() - 1);
            k++;
        }
        return k;
    }

    int tap(int what) {
        in(what, 0, 4);
        return what == 4 ? now.view() : now.tap[what];
    }

    int sums(int what) {
        in(what, 0, 4);
        int put = 0;
        int came = 0;
        int there = 0;
        for (int v = 0; v < town.size(); v++) {
            for (int h = 0; h < 3; h++) {
                put += now.put[v][h];
                came += now.came[v][h];
                there += now.herb(v, h);
            }
        }
        if (put != came + now.gardens + now.taken + there) {
            throw new IllegalStateException("cups were lost");
        }
        return new int[] {put, came, now.gardens, now.taken, there}[what];
    }

    int put(int v, int what) {
        village(v);
        in(what, 0, 5);
        return what < 3 ? now.put[v][what] : now.came[v][what - 3];
    }

    int thinks(int v, int herb, int water, int mint, int rue, int sage, int day) {
        village(v);
        in(herb, 0, 2);
        for (int cups : new int[] {water, mint, rue, sage}) {
            in(cups, 0, 9999);
        }
        in(day, 0, 999);
        return think(v, new int[] {water, mint, rue, sage}, day, 0)[herb];
    }

    int view(int days) {
        in(days, 0, 99);
        return run(now, days).view();
    }

    int ahead(int v, int days, int what) {
        village(v);
        in(days, 0, 99);
        in(what, 0, 3);
        return run(now, days).totals()[v][what];
    }

    int when(int view) {
        in(view, 0, 7);
        State s = now.copy();
        for (int d = 1; d < 100; d++) {
            day(s, new Odds());
            if (s.view() == view) {
                return d;
            }
        }
        return -1;
    }

    int please(int set) {
        bits(set);
        int was = now.pleased;
        now.pleased = set;
        undoable.clear();
        return was;
    }

    int contrary(int set) {
        bits(set);
        int was = now.contrary;
        now.contrary = set;
        undoable.clear();
        return was;
    }

    int whom(int days) {
        in(days, 1, 60);
        return whomBy(days);
    }

    private int whomBy(int days) {
        int best = -1;
        for (int set = 0; set < 1 << town.size(); set++) {
            if ((set & now.pleased) == now.pleased) {
                State s = now.copy();
                s.pleased = set;
                if (run(s, days).view() == 0
                        && (best < 0 || Integer.bitCount(set) < Integer.bitCount(best))) {
                    best = set;
                }
            }
        }
        return best;
    }

    int feast() {
        int off = town.feast - now.day;
        return off >= 1 && off <= 60 ? whomBy(off) : -1;
    }

    int filters(int v, int herb, int days) {
        village(v);
        in(herb, 0, 2);
        in(days, 1, 60);
        for (int n = 0; n < 100; n++) {
            Odds o = new Odds();
            o.filterVillage = v;
            o.filterHerb = herb;
            o.filterCups = n;
            if (run(now, days, o).tap[1 + herb] == 0) {
                return n;
            }
        }
        return -1;
    }

    private boolean[] so(int set) {
        boolean[] so = new boolean[book.size()];
        for (int i = 0; i < so.length; i++) {
            State s = start();
            s.contrary = set;
            so[i] = run(s, book.get(i).day).view() == book.get(i).view;
        }
        return so;
    }

    int minds(int what) {
        in(what, 0, 3);
        List<Integer> sets = new ArrayList<>();
        for (int set = 0; set < 1 << town.size(); set++) {
            boolean all = true;
            for (boolean so : so(set)) {
                all &= so;
            }
            if (all) {
                sets.add(set);
            }
        }
        int inAll = 0;
        int inNone = 0;
        for (int v = 0; v < town.size() && !sets.isEmpty(); v++) {
            int bit = 1 << v;
            inAll |= sets.stream().allMatch(x -> (x & bit) != 0) ? bit : 0;
            inNone |= sets.stream().noneMatch(x -> (x & bit) != 0) ? bit : 0;
        }
        return new int[] {sets.size(), sets.isEmpty() ? -1 : sets.get(0), inAll, inNone}[what];
    }

    int right() {
        boolean[] so = so(now.contrary);
        int k = 0;
        while (k < so.length && so[k]) {
            k++;
        }
        return k;
    }

    int where(int day) {
        in(day, 1, 60);
        int n = town.size();
        int[] tasted = new int[n];
        for (int v = 0; v < n; v++) {
            tasted[v] = taste(v, day);
        }
        int best = (1 << n) - 1;
        for (int set = 0; set < 1 << n; set++) {
            boolean good = true;
            for (int v = 0; v < n; v++) {
                for (int w = 0; w < n; w++) {
                    good &= tasted[v] == tasted[w] || (tasted[v] & set) != (tasted[w] & set);
                }
            }
            if (good && (Integer.bitCount(set) < Integer.bitCount(best)
                    || Integer.bitCount(set) == Integer.bitCount(best) && set < best)) {
                best = set;
            }
        }
        return best;
    }

    private int taste(int v, int day) {
        Odds o = new Odds();
        o.alone = v;
        State s = run(start(), day, o);
        int bits = 0;
        for (int w = 0; w < town.size(); w++) {
            bits |= s.herb(w, 0) + s.herb(w, 1) + s.herb(w, 2) > 0 ? 1 << w : 0;
        }
        return bits;
    }

    int tasted(int v, int day) {
        village(v);
        in(day, 1, 60);
        return taste(v, day);
    }

    private String sign(State s) {
        StringBuilder sb = new StringBuilder();
        sb.append(Arrays.toString(s.water)).append(Arrays.deepToString(s.herbs)).append(Arrays.toString(s.latest));
        for (int v = 0; v < town.size(); v++) {
            for (int ago = 1; ago <= town.lags.getOrDefault(v, 0) - 1; ago++) {
                sb.append(Arrays.toString(s.history.get(Math.max(0, s.day - ago))[v]));
            }
        }
        return sb.toString();
    }

    int round(int what) {
        in(what, 0, 1);
        if (daily.containsValue(true)) {
            return -1;
        }
        Map<String, Integer> seen = new HashMap<>();
        State s = now.copy();
        seen.put(sign(s), 0);
        for (int d = 1; d <= 200; d++) {
            day(s, new Odds());
            Integer ago = seen.put(sign(s), d);
            if (ago != null) {
                return what == 0 ? d : d - ago;
            }
        }
        return -1;
    }

    int grade(int v, int grade) {
        village(v);
        in(grade, 0, 3);
        int was = now.grades[v];
        now.grades[v] = grade;
        undoable.clear();
        return was;
    }

    private int lossBy(int v, int grade, int days, int c) {
        State s = now.copy();
        s.grades[v] = grade;
        int loss = 0;
        for (int d = 0; d < days; d++) {
            day(s, new Odds());
            loss += c * grade + s.herb(v, 0) + s.herb(v, 1) + s.herb(v, 2);
        }
        return loss;
    }

    private int wish(int v, int days, int c) {
        int best = 3;
        for (int g = 2; g >= 0; g--) {
            best = lossBy(v, g, days, c) <= lossBy(v, best, days, c) ? g : best;
        }
        return best;
    }

    int loss(int v, int days, int c, int what) {
        village(v);
        in(days, 1, 30);
        in(c, 0, 99);
        in(what, 0, 1);
        return what == 0 ? lossBy(v, now.grades[v], days, c) : wish(v, days, c);
    }

    int rest(int days, int c) {
        in(days, 1, 30);
        in(c, 0, 99);
        undoable.clear();
        List<String> seen = new ArrayList<>();
        seen.add(Arrays.toString(now.grades));
        for (int round = 0; round < 20; round++) {
            boolean changed = false;
            for (int v = 0; v < town.size(); v++) {
                int w = wish(v, days, c);
                changed |= w != now.grades[v];
                now.grades[v] = w;
            }
            if (!changed) {
                return 1;
            }
            if (seen.contains(Arrays.toString(now.grades))) {
                return 0;
            }
            seen.add(Arrays.toString(now.grades));
        }
        return 0;
    }

    private int[] dry(int seed, int q, int days) {
        Odds o = new Odds();
        o.dry = true;
        o.seed = seed;
        o.q = q;
        State s = now.copy();
        int water = 0;
        for (int d = 0; d < days; d++) {
            day(s, o);
            water += s.tap[0];
        }
        return new int[] {s.view(), water};
    }

    int drought(int seed, int q, int days, int what) {
        in(q, 0, 16);
        in(days, 1, 60);
        in(what, 0, 1);
        return dry(seed, q, days)[what];
    }

    int span(int seed, int many, int q, int days, int what) {
        in(many, 1, 30);
        in(q, 0, 16);
        in(days, 1, 60);
        in(what, 0, 2);
        int clear = 0;
        List<Integer> waters = new ArrayList<>();
        for (int i = 0; i < many; i++) {
            int[] d = dry(seed + i, q, days);
            clear += d[0] == 0 ? 1 : 0;
            waters.add(d[1]);
        }
        waters.sort(null);
        return new int[] {clear, waters.get(0), waters.get(many - 1)}[what];
    }

    int image() {
        if (images.size() == 3) {
            return -1;
        }
        images.add(now.copy());
        return images.size();
    }

    int restore() {
        if (images.isEmpty()) {
            return -1;
        }
        now = images.remove(images.size() - 1);
        undoable.clear();
        return images.size();
    }

    int status(int what) {
        return what == 0 ? missing : what == 1 ? improper : -1;
    }

    int count(int what) {
        return what == 0 ? images.size() : what == 1 ? tape.size() : what == 2 ? undoable.size() : -1;
    }
}
