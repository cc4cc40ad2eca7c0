/** Terms: the bounds of the tasters' book. */
final class BookEdges {
    private BookEdges() { }

    static void run() {
        Sentences.of("Terms", "A BOOK is of up to 150 bytes");
        HerbWaters x = new HerbWaters();
        String full = "1 1;" + " ".repeat(142) + "2 2;";
        Check.due("150 bytes", full.length(), 150);
        Check.due("the last of 150 bytes counts", Check.book(x, full), 2);
        bad(full.substring(0, 149), "x", 1);
        Check.feed(x, full + " ".repeat(10));
        Check.improper("151 bytes", () -> x.book(151));
        Check.due("it stays", x.told(7), 2);
        Check.due("an empty one", x.book(0), 0);
        Sentences.of("Terms", "{ D V \";\" }, 12 lines at most");
        good("", 0);
        good("1 1;", 1);
        good("1 1;".repeat(12), 12);
        bad("1 1;".repeat(12), "1 1;", 3);
        Sentences.of("Terms", "on DAY D (1 to 99)");
        bad("", "0 1;", 2);
        good("1 1;", 1);
        good("99 1;", 1);
        bad("", "100 1;", 2);
        HerbWaters late = Check.town("village 0;tap 0 8;");
        Check.opinion(late, 0, "put mint 1 if day=98;put rue 1 if day=99;");
        Check.book(late, "1 0;99 1;98 0;");
        Check.due("day 99 itself", late.right(), 3);
        Sentences.of("Terms", "VIEW V (0 to 7) came from the tap.");
        good("1 0;", 1);
        good("1 7;", 1);
        bad("1 ", "8;", 2);
        bad("1 ", "-1;", 1);
        HerbWaters all = Check.town("village 0;tap 0 8;");
        Check.opinion(all, 0, "put mint 1 if day=2;put rue 1 if day=2;put sage 1 if day=2;");
        Check.book(all, "2 0;3 7;4 0;");
        Check.due("views 0 and 7", all.right(), 3);
    }

    static void good(String text, int lines) {
        HerbWaters x = new HerbWaters();
        Check.due("\"" + text + "\" is taken", Check.book(x, text), lines);
        Check.due("\"" + text + "\" has no fault", x.fault(), HerbWaters.NONE);
        Check.due("\"" + text + "\" is told", x.told(7), lines);
    }

    static void bad(String ahead, String from, int kind) {
        HerbWaters x = new HerbWaters();
        Check.due("\"" + ahead + from + "\" is a fault", Check.book(x, ahead + from), kind - 10);
        Check.due("\"" + ahead + from + "\" has its fault at", x.fault(), ahead.length());
    }
}
