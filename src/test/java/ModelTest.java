import java.util.Random;

/** Runs of calls by chance (always the same ones), each answered by HerbWaters and by the model. */
public final class ModelTest {
    private static int wrong = 0;

    public static void main(String[] args) {
        int first = args.length > 0 ? Integer.parseInt(args[0]) : 1;
        int many = args.length > 1 ? Integer.parseInt(args[1]) : 400;
        for (int seed = first; seed < first + many && wrong < 3; seed++) {
            Random chance = new Random(seed);
            if (seed % 4 == 0) {
                faults(chance);
            } else {
                days(chance, seed % 16 == 1);
            }
        }
        System.out.println(wrong == 0 ? "the model answers alike" : wrong + " answers are unlike the model's");
        System.exit(wrong == 0 ? 0 : 1);
    }

    private static void faults(Random chance) {
        Pair pair = new Pair();
        Texts texts = new Texts(chance);
        pair.tell("town", texts.town(3));
        for (int i = 0; i < 60; i++) {
            switch (chance.nextInt(3)) {
                case 0:
                    pair.tell("town", cut(texts.spoil(texts.town(1 + chance.nextInt(9))), 600));
                    break;
                case 1:
                    if (pair.number("told", 0) == 0) {
                        pair.tell("town", "village 3;");
                    }
                    pair.tellOpinion(0, cut(texts.spoil(texts.opinion(true)), 150));
                    for (int herb = 0; herb < 3; herb++) {
                        pair.call("thinks", 0, herb, chance.nextInt(9), chance.nextInt(9), chance.nextInt(9),
                                chance.nextInt(9), chance.nextInt(9));
                    }
                    break;
                default:
                    pair.tell("book", cut(texts.spoil(texts.book(chance.nextInt(14))), 150));
                    break;
            }
            pair.call("told", chance.nextInt(8));
            pair.call("count", chance.nextInt(4));
        }
        wrong += pair.wrong;
    }

    private static String cut(String text, int most) {
        return text.length() <= most ? text : text.substring(0, most);
    }

    private static void days(Random chance, boolean large) {
        Pair pair = new Pair();
        Texts texts = new Texts(chance);
        int villages = large ? 7 + chance.nextInt(3) : 1 + chance.nextInt(4);
        boolean asksDay = chance.nextInt(3) == 0;
        pair.tell("town", texts.town(villages));
        for (int v = 0; v < villages; v++) {
            if (chance.nextInt(5) > 0) {
                pair.tellOpinion(v, texts.opinion(asksDay));
            }
        }
        writeBook(pair, chance, villages);
        for (int i = 0; i < (large ? 30 : 120); i++) {
            step(pair, texts, chance, villages, large);
            if (pair.wrong > 0) {
                break;
            }
        }
        for (int v = -1; v <= villages; v++) {
            for (int what = -1; what < 10; what++) {
                pair.call("village", v, what);
                pair.call("put", v, what);
            }
        }
        pair.call("status", 0);
        pair.call("status", 1);
        wrong += pair.wrong;
    }

    /** A book that is right by some set, mostly. */
    private static void writeBook(Pair pair, Random chance, int villages) {
        pair.call("contrary", chance.nextInt(1 << villages));
        StringBuilder lines = new StringBuilder();
        for (int i = chance.nextInt(5); i > 0; i--) {
            int day = 1 + chance.nextInt(12);
            int view = chance.nextInt(6) == 0 ? chance.nextInt(8) : pair.number("view", day);
            lines.append(day).append(' ').append(view).append(';');
        }
        if (chance.nextBoolean()) {
            pair.call("contrary", 0);
        }
        pair.tell("book", lines.toString());
    }

    /** A number of the range, now and then just outside of it. */
    private static int near(Random chance, int least, int most) {
        int kind = chance.nextInt(25);
        return kind == 0 ? least - 1 : kind == 1 ? most + 1 : kind == 2 ? least : kind == 3 ? most
                : least + chance.nextInt(most - least + 1);
    }

    /** Mostly nobody, so that something is put. */
    private static void please(Pair pair, Random chance, int villages) {
        boolean one = chance.nextBoolean();
        pair.call("please", one ? near(chance, 0, (1 << villages) - 1) & near(chance, 0, (1 << villages) - 1) : 0);
        if (one && chance.nextBoolean()) {
            pair.call("days", near(chance, 1, 3));
            pair.call("please", 0);
        }
    }

    private static void step(Pair pair, Texts texts, Random chance, int villages, boolean large) {
        int v = near(chance, 0, villages - 1);
        int herb = near(chance, 0, 2);
        int far = near(chance, 1, large ? 6 : 20);
        switch (chance.nextInt(33)) {
            case 0: pair.call("days", near(chance, 1, chance.nextInt(6) == 0 ? 99 : 9)); break;
            case 1: pair.call("days", near(chance, 1, 3)); break;
            case 2: pair.call("undo", near(chance, 1, 12)); break;
            case 3: pair.call("tap", near(chance, 0, 4)); break;
            case 4: pair.call("sums", near(chance, 0, 4)); break;
            case 5: pair.call("put", v, near(chance, 0, 5)); break;
            case 6: pair.call("thinks", v, herb, near(chance, 0, 50), near(chance, 0, 9), near(chance, 0, 9),
                    near(chance, 0, 9999), near(chance, 0, 999)); break;
            case 7: pair.call("view", near(chance, 0, 99)); break;
            case 8: pair.call("ahead", v, near(chance, 0, 99), near(chance, 0, 3)); break;
            case 9: pair.call("when", near(chance, 0, 7)); break;
            case 10: please(pair, chance, villages); break;
            case 11: pair.call("days", near(chance, 1, 2)); break;
            case 12: if (chance.nextInt(3) == 0) {
                    pair.call("contrary", near(chance, 0, (1 << villages) - 1));
                } break;
            case 13: pair.call("whom", far); break;
            case 14: pair.call("feast"); break;
            case 15: pair.call("filters", v, herb, far); break;
            case 16: pair.call("minds", near(chance, 0, 3)); break;
            case 17: pair.call("right"); break;
            case 18: pair.call("where", far); break;
            case 19: pair.call("tasted", v, far); break;
            case 20: pair.call("round", near(chance, 0, 1)); break;
            case 21: pair.call("grade", v, chance.nextInt(3) == 0 ? near(chance, 0, 3) : 0); break;
            case 22: pair.call("loss", v, near(chance, 1, 30), near(chance, 0, 9), near(chance, 0, 1)); break;
            case 23: if (chance.nextInt(3) == 0) {
                    pair.call("rest", large ? 3 : near(chance, 1, 12), near(chance, 0, 4));
                } break;
            case 24: pair.call("drought", chance.nextInt(), near(chance, 0, 16), far, near(chance, 0, 1)); break;
            case 25: pair.call("span", chance.nextInt(), near(chance, 1, 30), near(chance, 0, 16), far,
                    near(chance, 0, 2)); break;
            case 26: pair.call("image"); break;
            case 27: pair.call("restore"); break;
            case 28: pair.call("count", near(chance, 0, 2)); break;
            case 29: pair.call("led", v, herb, near(chance, 0, villages - 1)); break;
            case 30: pair.call("village", v, near(chance, 0, 8)); break;
            case 31: pair.call("told", near(chance, 0, 7)); break;
            default:
                if (chance.nextInt(4) == 0) {
                    pair.feed(texts.town(villages));
                    pair.call("town", near(chance, 0, 30));
                    pair.call("fault");
                    pair.tell("town", texts.town(villages));
                    for (int k = 0; k < villages; k++) {
                        pair.tellOpinion(k, texts.opinion(false));
                    }
                } else if (chance.nextInt(3) == 0) {
                    pair.tellOpinion(Math.max(0, Math.min(villages - 1, v)), texts.opinion(chance.nextInt(6) == 0));
                }
                break;
        }
    }
}
