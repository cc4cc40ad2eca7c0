import java.util.ArrayList;
import java.util.List;
import java.util.Random;

/** Makes texts by chance, sound ones and such as have faults. */
final class Texts {
    private static final String[] HERBS = {"mint", "rue", "sage"};

    private final Random chance;

    Texts(Random chance) {
        this.chance = chance;
    }

    private int upTo(int most) {
        return chance.nextInt(most + 1);
    }

    private String herb() {
        return HERBS[chance.nextInt(3)];
    }

    /** Blanks, now and then. */
    private String gap() {
        return chance.nextInt(8) == 0 ? " ".repeat(chance.nextInt(3)) : "";
    }

    String town(int villages) {
        List<String> clauses = new ArrayList<>();
        int[] left = new int[villages];
        for (int v = 0; v < villages; v++) {
            clauses.add("village " + upTo(chance.nextInt(5) == 0 ? 99 : 30));
            left[v] = 8;
        }
        if (villages > 0) {
            boolean tap = false;
            int more = villages + upTo(2 * villages);
            for (int i = 0; i < more; i++) {
                int k = chance.nextInt(villages);
                int p = 1 + chance.nextInt(5);
                if (left[k] >= p) {
                    left[k] -= p;
                    if (!tap && chance.nextInt(3) == 0) {
                        tap = true;
                        clauses.add("tap " + k + " " + p);
                    } else if (clauses.stream().filter(c -> c.startsWith("ch")).count() < 20) {
                        clauses.add("channel " + k + " " + chance.nextInt(villages) + " " + p);
                    }
                }
            }
            int extras = upTo(2 * villages);
            for (int i = 0; i < extras; i++) {
                clauses.add(extra(chance.nextInt(villages), left));
            }
        }
        StringBuilder sb = new StringBuilder();
        for (String c : clauses) {
            sb.append(gap()).append(c).append(gap()).append(";");
        }
        return sb.append(gap()).toString();
    }

    private String extra(int k, int[] left) {
        switch (chance.nextInt(6)) {
            case 0: return "spring " + k + " " + upTo(20);
            case 1: return "leak " + k + " " + (left[k] == 0 ? 0 : chance.nextInt(Math.min(4, left[k] + 1)));
            case 2: return "lag " + k + " " + upTo(5);
            case 3: return "frog " + k;
            case 4: return "filter " + k + " " + herb() + " " + upTo(6);
            default: return "feast " + upTo(60);
        }
    }

    String opinion(boolean mayAskDay) {
        StringBuilder sb = new StringBuilder();
        int parts = 1 + chance.nextInt(3);
        for (int i = 0; i < parts; i++) {
            String part = gap() + "put " + herb() + " " + sum(2, mayAskDay);
            if (chance.nextInt(2) == 0) {
                part += " if " + any(2, mayAskDay);
            }
            part += gap() + ";";
            if (sb.length() + part.length() <= 150) {
                sb.append(part);
            }
        }
        return sb.toString();
    }

    private String sum(int depth, boolean day) {
        StringBuilder sb = new StringBuilder(product(depth, day));
        for (int i = chance.nextInt(3); i > 1; i--) {
            sb.append(gap()).append(chance.nextBoolean() ? "+" : "-").append(gap()).append(product(depth, day));
        }
        return sb.toString();
    }

    private String product(int depth, boolean day) {
        StringBuilder sb = new StringBuilder(value(depth, day));
        for (int i = chance.nextInt(4); i > 2; i--) {
            sb.append(gap()).append(chance.nextBoolean() ? "*" : "/").append(gap()).append(value(depth, day));
        }
        return sb.toString();
    }

    private String value(int depth, boolean day) {
        switch (chance.nextInt(9)) {
            case 0: return depth > 0 ? "(" + sum(depth - 1, day) + gap() + ")" : "7";
            case 1: return "water";
            case 2: return day ? "day" : "water";
            case 3: return "put";
            case 4: return chance.nextInt(4) == 0 ? "spring" : "2";
            case 5:
            case 6: return herb();
            case 7: return "" + upTo(chance.nextInt(4) == 0 ? 999 : 30);
            default: return "" + upTo(5);
        }
    }

    private String any(int depth, boolean day) {
        return all(depth, day) + (chance.nextInt(4) == 0 ? " or " + all(depth, day) : "");
    }

    private String all(int depth, boolean day) {
        return test(depth, day) + (chance.nextInt(4) == 0 ? " and " + test(depth, day) : "");
    }

    private String test(int depth, boolean day) {
        int kind = depth > 0 ? chance.nextInt(7) : 6;
        if (kind == 0) {
            return "not " + test(depth - 1, day);
        }
        if (kind == 1) {
            return gap() + "[" + any(depth - 1, day) + gap() + "]";
        }
        return sum(1, day) + " " + "<>=".charAt(chance.nextInt(3)) + gap() + sum(1, day);
    }

    String book(int lines) {
        StringBuilder sb = new StringBuilder();
        for (int i = 0; i < lines; i++) {
            sb.append(gap()).append(1 + chance.nextInt(15)).append(" ").append(chance.nextInt(8)).append(";");
        }
        return sb.toString();
    }

    /** Another text, by a change or two at the edges of its words, numbers and signs. */
    String spoil(String text) {
        String[] bits = {";", " ", "(", ")", "[", "]", "not ", "0", "9", "<", "=", "+", "/", "put ", " if ", " or ",
            " and ", "mint", "a", "\u0000", "\u00e9", "((((", "[[[", "not not not ", " 1 ", " 60 ", " 100 ", "1000"};
        String[] whole = {"village 1;", "tap 0 1;", "tap 0 1;tap 0 1;", "channel 0 0 1;", "channel 0 0 1;".repeat(20),
            "leak 0 5;", "frog 0;".repeat(50), "put mint 1;", "put rue 2;".repeat(5), "1 1;", "99 7;".repeat(9)};
        String spoilt = text;
        for (int i = chance.nextInt(2); i >= 0; i--) {
            if (chance.nextInt(3) == 0) {
                int at = spoilt.indexOf(';', chance.nextInt(spoilt.length() + 1)) + 1;
                spoilt = spoilt.substring(0, at) + whole[chance.nextInt(whole.length)] + spoilt.substring(at);
                continue;
            }
            int at = edge(spoilt);
            String bit = chance.nextInt(3) == 0 ? "" : bits[chance.nextInt(bits.length)];
            int end = chance.nextBoolean() ? at : Math.min(spoilt.length(), at + 1 + chance.nextInt(4));
            spoilt = spoilt.substring(0, at) + bit + (chance.nextInt(9) == 0 ? "" : spoilt.substring(end));
        }
        return spoilt;
    }

    /** A place where another kind of sign begins. */
    private int edge(String text) {
        int at = chance.nextInt(text.length() + 1);
        while (at > 0 && at < text.length()
                && Character.isLetter(text.charAt(at)) == Character.isLetter(text.charAt(at - 1))
                && Character.isDigit(text.charAt(at)) == Character.isDigit(text.charAt(at - 1))) {
            at++;
        }
        return at;
    }
}
