/** A town with all of which there is a most: every call is made on it, at its bounds, against the plain model. */
final class FullEdges {
    private FullEdges() { }

    static void run() {
        Sentences.of("Terms", "VILLAGES, numbered from 0 on, 9 at most");
        Pair x = new Pair();
        Check.due("nine villages, 60 clauses", x.tell("town", town()).equals("9"));
        Check.due("20 channels", x.number("told", 1), 20);
        for (int v = 0; v < 9; v++) {
            Check.due("six parts", x.tellOpinion(v, opinion(v)).equals("6"));
        }
        String book = "99 7;98 7;97 7;1 0;2 5;3 7;4 7;5 7;6 7;7 7;8 7;9 7;";
        Check.due("twelve lines", x.tell("book", book).equals("12"));
        everyCall(x);
        x.call("please", 256);
        x.call("contrary", 511);
        x.call("grade", 8, 3);
        x.call("days", 99);
        everyCall(x);
        x.call("image");
        x.call("undo", 99);
        x.call("restore");
        everyCall(x);
        Check.due("calls", x.calls.size() < 512);
        Check.due("alike with the model in all calls", x.wrong, 0);
    }

    private static String town() {
        StringBuilder town = new StringBuilder("village 99;".repeat(9));
        for (int v = 0; v < 9; v++) {
            town.append("channel ").append(v).append(' ').append((v + 1) % 9).append(" 2;");
            town.append("channel ").append(v).append(' ').append((v + 5) % 9).append(" 1;");
            town.append("lag ").append(v).append(" 5;");
        }
        town.append("channel 8 8 1;channel 7 8 1;tap 8 3;leak 7 1;");
        for (int clause = 9 + 27 + 4; clause < 60; clause++) {
            town.append(clause % 2 == 0 ? "frog8;" : "frog0;");
        }
        return town.toString();
    }

    private static String opinion(int v) {
        return "put mint put+" + v + ";put rue water/9;put sage mint-rue;put sage 9 if sage<99;put mint 1;put rue spring+"
                + v + ";";
    }

    private static void everyCall(Pair x) {
        for (int what = 0; what < 8; what++) {
            x.call("told", what);
            x.call("when", what);
        }
        for (int what = 0; what < 5; what++) {
            x.call("sums", what);
            x.call("tap", what);
        }
        for (int what = 0; what < 9; what++) {
            x.call("village", 8, what);
            x.call("led", 8, 2, what);
        }
        x.call("put", 8, 5);
        x.call("thinks", 8, 2, 9999, 9999, 9999, 9999, 999);
        x.call("view", 99);
        x.call("ahead", 8, 99, 3);
        x.call("whom", 3);
        x.call("feast");
        x.call("filters", 8, 2, 3);
        x.call("minds", 0);
        x.call("minds", 3);
        x.call("right");
        x.call("where", 60);
        x.call("tasted", 8, 60);
        x.call("round", 0);
        x.call("round", 1);
        x.call("loss", 8, 30, 99, 0);
        x.call("loss", 8, 30, 0, 1);
        x.call("drought", -1, 8, 60, 0);
        x.call("drought", -1, 8, 60, 1);
        x.call("span", -1, 30, 8, 10, 1);
        x.call("rest", 2, 1);
        x.call("village", 8, 8);
    }
}
