/** The bounds of the tape, of how many texts there are, of faults asked for and of images, sentence by sentence. */
public final class TapeBoundsTest {
    private static final Sentences S = new Sentences();
    private static final int NONE = GooseBorder.NONE;
    private static final int BLANKS = 0x20202020;
    private static final int[] FAR = {Integer.MIN_VALUE, Integer.MIN_VALUE + 1, -3, Integer.MAX_VALUE - 1, Integer.MAX_VALUE};
    private static final String[] SHORT = {"cap 7;", "rain 7;", "odd 7;", "left 0 7;"};

    public static void main(String[] args) {
        newOnesHaveNothing();
        manyCalls();
        bytesOfNumbers();
        fullTape();
        refusedFeed();
        ends();
        refusedEnds();
        endOfAnEmptyTape();
        emptyTexts();
        furtherOnes();
        inThePlaceOfOne();
        shorterInThePlaceOfLonger();
        faultsLeaveAllAsItWas();
        noSuchSort();
        noTextIsReadThen();
        takenTapes();
        faultsAskedFor();
        counts();
        imagesOutside();
        noSuchImage();
        otherImagesStay();
        imagesOfTapeAndFault();
        S.finish();
    }

    private static void newOnesHaveNothing() {
        S.says("Promise 1", "No BORDERS, NIGHTS, LAWS, DAWNS; no images.");
        GooseBorder x = new GooseBorder();
        for (int sort = 0; sort < 4; sort++) {
            S.due("count " + sort, x.count(sort), 0);
        }
        S.due("border 0", x.border(0, 0), -2);
        S.due("night 0", x.deed(0, NONE, 0), -2);
        S.due("law 0", x.term(0, NONE, 0), -2);
        S.due("dawn 0", x.seen(0, NONE, 0), -2);
        for (int k = 0; k < 3; k++) {
            S.due("image " + k, x.again(k), false);
        }
        S.due("tape", Look.length(x), 0);
        S.due("fault", x.fault(0), 0);
        S.due("place", x.fault(1), NONE);
        tell(x, 0, NONE, "cap 5;");
        x.image(0);
        S.due("another new one", new GooseBorder().count(0), 0);
        S.due("another new one's image", new GooseBorder().again(0), false);
    }

    private static void manyCalls() {
        S.says("What it is", "at most 512 calls after it has been made");
        GooseBorder x = new GooseBorder();
        int calls = 0;
        while (calls < 508) {
            S.due("call " + calls, x.end(0), 0);
            calls++;
        }
        S.due("call 509", x.feed(0x63617020, 0x373b2020, BLANKS, BLANKS, BLANKS), 20);
        S.due("call 510", x.text(0, NONE), 0);
        S.due("call 511", x.border(0, 2), 7);
        S.due("call 512", x.count(0), 1);
    }

    private static void bytesOfNumbers() {
        S.says("Promise 2", "twenty bytes come behind it, of each number the highest first");
        String text = "goose 1 2 3 1 4;cap 9;  goose 4 3 2 0 99";
        GooseBorder x = new GooseBorder();
        Teller.feed(x, Teller.bytes(text));
        S.due("two feeds", Look.length(x), 40);
        S.due("all but the last byte", x.text(0, NONE), NONE);
        S.due("at its place", x.fault(1), 40);
        Teller.feed(x, Teller.bytes(text));
        S.due("the next one", x.feed(';' << 24 | 0x202020, BLANKS, BLANKS, BLANKS, BLANKS), 60);
        S.due("all", x.text(0, NONE), 0);
        S.due("worth of the second goose", x.border(0, 81), 99);
        for (int at = 0; at < 20; at++) {
            int[] five = {BLANKS, BLANKS, BLANKS, BLANKS, BLANKS};
            five[at / 4] ^= (0x20 ^ 0x80) << 24 - at % 4 * 8;
            S.due("a byte of 128 at " + at, x.feed(five[0], five[1], five[2], five[3], five[4]), 20);
            S.due("a byte of 128 at " + at, x.text(0, NONE), NONE);
            S.due("its place " + at, x.fault(1), at);
        }
    }

    private static void fullTape() {
        S.says("Terms 1", "THE TAPE has at most 600 bytes.");
        GooseBorder x = new GooseBorder();
        for (int i = 1; i <= 30; i++) {
            S.due("feed " + i, x.feed(BLANKS, BLANKS, BLANKS, BLANKS, BLANKS), 20 * i);
        }
        S.due("feed 31", x.feed(BLANKS, BLANKS, BLANKS, BLANKS, BLANKS), NONE);
        S.due("all 600", x.end(600), 600);
        for (int length = 577; length <= 600; length++) {
            x = tapeOf(length);
            int want = length <= 580 ? length + 20 : NONE;
            S.due("feed behind " + length, x.feed(BLANKS, BLANKS, BLANKS, BLANKS, BLANKS), want);
            S.due("tape behind " + length, Look.length(x), want == NONE ? length : want);
        }
        S.due("a text of 600", tell(x, 0, NONE, " ".repeat(594) + "cap 9;"), 0);
        S.due("its last line", x.border(0, 2), 9);
        S.due("a text of 599", tell(x, 0, NONE, " ".repeat(593) + "cap 8;"), 1);
        S.due("its last line", x.border(1, 2), 8);
    }

    private static void refusedFeed() {
        S.says("Promise 2", "NONE, and nothing comes, if there would be more than 600.");
        for (int length = 581; length <= 600; length++) {
            GooseBorder x = new GooseBorder();
            tell(x, 1, NONE, "rain 11;");
            Teller.feed(x, Teller.bytes(" ".repeat(length - 8) + "cap 12; "));
            long before = Look.at(x);
            S.due("feed behind " + length, x.feed(-1, -1, -1, -1, -1), NONE);
            S.due("all is as it was", Look.at(x), before);
            S.due("the text", x.text(0, NONE), 0);
            S.due("what it tells", x.border(0, 2), 12);
        }
    }

    private static void ends() {
        S.says("Promise 3", "The tape has its first n bytes alone: n.");
        for (int n = 0; n <= 20; n++) {
            GooseBorder x = new GooseBorder();
            Teller.feed(x, Teller.bytes("cap 1;cap 2;cap 3;  "));
            S.due("end " + n, x.end(n), n);
            S.due("it has no more", x.end(n + 1), NONE);
            S.due("it has as many", x.end(n), n);
            boolean whole = n % 6 == 0 || n > 18;
            S.due("text of " + n, x.text(0, NONE), whole ? 0 : NONE);
            S.due("fault of " + n, x.fault(0), whole ? 0 : 1);
            // 'c' and 'ca' are words that no line has; behind 'cap' the end is what no text goes on with
            S.due("place of " + n, x.fault(1), whole ? NONE : n % 6 < 3 ? n - n % 6 : n);
            S.due("cap of " + n, x.border(0, 2), !whole ? -2 : n / 6 == 0 ? NONE : n / 6);
        }
        GooseBorder x = new GooseBorder();
        Teller.feed(x, Teller.bytes("cap 1;cap 2;"));
        S.due("end 5", x.end(5), 5);
        S.due("feed behind it", x.feed(0x393b2020, BLANKS, BLANKS, BLANKS, BLANKS), 25);
        S.due("text", x.text(0, NONE), 0);
        S.due("what was behind the end is gone", x.border(0, 2), 19);
    }

    private static void refusedEnds() {
        S.says("Promise 3", "NONE if it has not so many, or n is below 0.");
        for (int length : new int[] {0, 1, 19, 20, 21, 599, 600}) {
            GooseBorder x = tapeOf(length);
            S.due("end -1 of " + length, x.end(-1), NONE);
            S.due("end of one more than " + length, x.end(length + 1), NONE);
            for (int n : FAR) {
                S.due("end " + n + " of " + length, x.end(n), NONE);
            }
            S.due("the tape stays", Look.length(x), length);
            S.due("end of all " + length, x.end(length), length);
            S.due("end 0 of " + length, x.end(0), 0);
            S.due("then it is empty", x.end(1), NONE);
        }
    }

    private static void endOfAnEmptyTape() {
        S.says("Promise 4", "The tape is taken (and is empty then)");
        GooseBorder x = new GooseBorder();
        Teller.feed(x, Teller.bytes("cap 1;"));
        S.due("taken", x.text(0, NONE), 0);
        S.due("empty", x.end(1), NONE);
        S.due("empty", x.end(0), 0);
        Teller.feed(x, Teller.bytes("cap;"));
        S.due("a fault", x.text(0, NONE), NONE);
        S.due("empty", x.end(1), NONE);
        S.due("feed anew", x.feed(0, 0, 0, 0, 0), 20);
    }

    private static void emptyTexts() {
        S.says("Promise 4", "a text of a sort");
        for (int sort = 0; sort < 4; sort++) {
            GooseBorder x = new GooseBorder();
            S.due("no bytes as sort " + sort, x.text(sort, NONE), 0);
            S.due("one blank as sort " + sort, tell(x, sort, NONE, "\n"), 1);
            S.due("no fault", x.fault(0), 0);
            S.due("no place", x.fault(1), NONE);
            S.due("count", x.count(sort), 2);
        }
        GooseBorder x = Teller.told("", "", "", "");
        S.due("no paths", x.border(0, 0), 0);
        S.due("no geese", x.border(0, 1), 0);
        S.due("no cap", x.border(0, 2), NONE);
        S.due("no deeds", x.deed(0, NONE, 0), 0);
        S.due("no terms", x.term(0, NONE, 0), 0);
        S.due("none seen", x.seen(0, NONE, 0), 0);
        GooseBorder anew = Teller.told("path 1 1 1;goose 1 1 1 1 1;cap 3;", "thaw;", "odd 1;", "left 0 0;");
        for (int sort = 0; sort < 4; sort++) {
            S.due("empty in its place", tell(anew, sort, 0, ""), 0);
        }
        S.due("all is as of an empty one", Look.at(anew), Look.at(x));
    }

    private static void furtherOnes() {
        S.says("Terms 1", "BORDERS, at most 2 (sort 0), NIGHTS, at most 2 (1), LAWS, at most 2 (2), DAWNS, at most 2 (3)");
        for (int sort = 0; sort < 4; sort++) {
            GooseBorder x = new GooseBorder();
            S.due("first of " + sort, tell(x, sort, NONE, SHORT[sort]), 0);
            S.due("count", x.count(sort), 1);
            S.due("second of " + sort, tell(x, sort, NONE, SHORT[sort]), 1);
            S.due("count", x.count(sort), 2);
            long before = Look.at(x);
            S.due("third of " + sort, tell(x, sort, NONE, ""), -2);
            S.due("all is as it was", Look.at(x), before);
            for (int other = 0; other < 4; other++) {
                S.due("count of " + other, x.count(other), other == sort ? 2 : 0);
            }
        }
    }

    private static void inThePlaceOfOne() {
        S.says("Promise 4", "a further one (at NONE), or in the place of one: its number.");
        for (int sort = 0; sort < 4; sort++) {
            GooseBorder x = new GooseBorder();
            for (int held = 0; held <= 2; held++) {
                for (int at = -4; at <= 4; at++) {
                    if (at != NONE) {
                        int want = at >= 0 && at < held ? at : -2;
                        S.due("at " + at + " of " + held, tell(x, sort, at, SHORT[sort]), want);
                        S.due("count", x.count(sort), held);
                    }
                }
                for (int at : FAR) {
                    S.due("at " + at + " of " + held, tell(x, sort, at, SHORT[sort]), -2);
                }
                if (held < 2) {
                    S.due("a further one", tell(x, sort, NONE, ""), held);
                }
            }
        }
        GooseBorder x = Teller.told("cap 1;", null, null, null);
        tell(x, 0, NONE, "cap 2;");
        S.due("in the place of the second", tell(x, 0, 1, "path 1 2 3;"), 1);
        S.due("the second", x.border(1, 30), 3);
        S.due("the second's cap is no more", x.border(1, 2), NONE);
        S.due("the first", x.border(0, 2), 1);
    }

    private static void shorterInThePlaceOfLonger() {
        S.says("Promise 4, a shorter one", "in the place of one");
        String[] longer = {"path 2 1 1;".repeat(5) + "goose 4 4 0 1 9;".repeat(8) + "cap 5;",
            "march 0 0;rain 9;" + "frost;".repeat(21) + "fox 0;", "each 9;".repeat(8),
            "left 1 7;left 2 7;left 3 7;left 4 7;left 0 7;"};
        String[] shorter = {"path 1 1 0;path 1 1 0;path 1 1 0;goose 1 0 0 0 1;goose 1 0 0 0 1;", "march 0 2;rain 0;", "odd 5;",
            "left 0 0;"};
        for (int sort = 0; sort < 4; sort++) {
            GooseBorder x = Teller.told(longer[0], longer[1], longer[2], longer[3]);
            String[] now = longer.clone();
            for (int step = 0; step < 4; step++) {
                int next = (sort + step) % 4;
                S.due("sort " + next, tell(x, next, 0, shorter[next]), 0);
                now[next] = shorter[next];
                GooseBorder anew = Teller.told(now[0], now[1], now[2], now[3]);
                S.due("all that is told", Look.at(x), Look.at(anew));
                S.due("all that is found out", Look.deepAt(x), Look.deepAt(anew));
            }
        }
    }

    private static void faultsLeaveAllAsItWas() {
        S.says("Promise 4", "NONE: a FAULT.");
        String[] spoilt = {"cap 7; path", "rain 11;", "odd 7;".repeat(9), "left 0 7;left 0 7;"};
        int[] faults = {1, 2, 3, 4};
        int[] places = {11, 5, 48, 18};
        for (int sort = 0; sort < 4; sort++) {
            GooseBorder x = new GooseBorder();
            for (int held = 0; held <= 2; held++) {
                for (int at = held == 2 ? 0 : NONE; at < held; at++) {
                    tell(x, sort, -2, "");
                    long before = Look.at(x);
                    S.due("sort " + sort + " at " + at, tell(x, sort, at, spoilt[sort]), NONE);
                    S.due("fault of " + sort, x.fault(0), faults[sort]);
                    S.due("place of " + sort, x.fault(1), places[sort]);
                    tell(x, sort, -2, "");
                    S.due("all is as it was", Look.at(x), before);
                }
                tell(x, sort, NONE, SHORT[sort]);
            }
        }
    }

    private static void noSuchSort() {
        S.says("Promise 4", "-2: there is none such, there are as many as may be, or no such sort");
        GooseBorder x = new GooseBorder();
        for (int times = 0; times < 2; times++) {
            long before = Look.at(x);
            for (int sort : new int[] {-2, -1, 4, 5, Integer.MIN_VALUE, Integer.MAX_VALUE}) {
                for (int at : new int[] {NONE, 0, 1, 2}) {
                    S.due("text " + sort + " " + at, tell(x, sort, at, ""), -2);
                }
            }
            S.due("all is as it was", Look.at(x), before);
            for (int sort = 0; sort < 4; sort++) {
                S.due("sort " + sort, tell(x, sort, NONE, SHORT[sort]), times);
            }
        }
    }

    private static void noTextIsReadThen() {
        S.says("Promise 4", "no text is read then, FAULT 0");
        int[][] refused = {{0, 1}, {0, -2}, {1, 0}, {4, NONE}, {-1, 0}};
        for (int[] call : refused) {
            GooseBorder x = Teller.told("cap 1;", null, null, null);
            S.due("a fault", tell(x, 0, NONE, "x"), NONE);
            S.due("fault 1", x.fault(0), 1);
            S.due("place 0", x.fault(1), 0);
            S.due("refused", tell(x, call[0], call[1], "spoilt"), -2);
            S.due("no fault", x.fault(0), 0);
            S.due("no place", x.fault(1), NONE);
            S.due("the border stays", x.border(0, 2), 1);
        }
        GooseBorder x = Teller.told("cap 1;", null, null, null);
        tell(x, 0, NONE, "cap 2;");
        tell(x, 0, 0, "x");
        S.due("as many as may be", tell(x, 0, NONE, "spoilt"), -2);
        S.due("no fault", x.fault(0), 0);
        S.due("no place", x.fault(1), NONE);
    }

    private static void takenTapes() {
        S.says("Promise 4, by a refused call", "The tape is taken (and is empty then)");
        GooseBorder x = new GooseBorder();
        int[][] refused = {{0, 0}, {4, NONE}, {-1, NONE}, {3, -2}};
        for (int[] call : refused) {
            for (int length : new int[] {0, 1, 600}) {
                Teller.feed(x, Teller.bytes(" ".repeat(length)));
                S.due("refused with " + length, x.text(call[0], call[1]), -2);
                S.due("empty", x.end(1), NONE);
            }
        }
    }

    private static void faultsAskedFor() {
        S.says("Promise 5", "what 0: the FAULT, 0 without, 1: its place, NONE without. NONE for another what.");
        GooseBorder x = new GooseBorder();
        String[] texts = {"x", "cap 1;  ", "  y", ""};
        int[][] wants = {{1, 0}, {0, NONE}, {1, 2}, {0, NONE}};
        for (int i = 0; i < texts.length; i++) {
            tell(x, 0, NONE, texts[i]);
            S.due("fault", x.fault(0), wants[i][0]);
            S.due("place", x.fault(1), wants[i][1]);
            S.due("fault -1", x.fault(-1), NONE);
            S.due("fault 2", x.fault(2), NONE);
            for (int what : FAR) {
                S.due("fault " + what, x.fault(what), NONE);
            }
        }
        tell(x, 0, 0, "x");
        S.due("feed leaves it", x.feed(0, 0, 0, 0, 0), 20);
        S.due("end leaves it", x.end(0), 0);
        S.due("fault", x.fault(0), 1);
    }

    private static void counts() {
        S.says("Promise 37", "How many there are of a sort. -2 for another one.");
        GooseBorder x = new GooseBorder();
        for (int held = 0; held <= 2; held++) {
            for (int sort = -3; sort <= 6; sort++) {
                S.due("count " + sort, x.count(sort), sort >= 0 && sort <= 3 ? held : -2);
            }
            for (int sort : FAR) {
                S.due("count " + sort, x.count(sort), -2);
            }
            for (int sort = 0; sort < 4; sort++) {
                tell(x, sort, NONE, SHORT[sort]);
            }
        }
    }

    private static void imagesOutside() {
        S.says("Promise 38", "Image k (0 .. 2) is all that is told ... true; false for another k.");
        GooseBorder x = new GooseBorder();
        long before = Look.at(x);
        for (int k = -3; k <= 5; k++) {
            S.due("image " + k, x.image(k), k >= 0 && k <= 2);
        }
        for (int k : FAR) {
            S.due("image " + k, x.image(k), false);
        }
        S.due("all is as it was", Look.at(x), before);
        for (int k = -3; k <= 5; k++) {
            S.due("again " + k, x.again(k), k >= 0 && k <= 2);
        }
    }

    private static void noSuchImage() {
        S.says("Promise 39", "All that is as image k has it ... true; false if there is none such.");
        for (int made = 0; made < 3; made++) {
            GooseBorder x = Teller.told("cap 1;", "thaw;", "odd 1;", "left 0 1;");
            S.due("image " + made, x.image(made), true);
            tell(x, 0, 0, "cap 2;");
            Teller.feed(x, Teller.bytes("cap"));
            long before = Look.at(x);
            for (int k = -2; k <= 4; k++) {
                if (k != made) {
                    S.due("again " + k, x.again(k), false);
                }
            }
            for (int k : FAR) {
                S.due("again " + k, x.again(k), false);
            }
            S.due("all is as it was", Look.at(x), before);
            S.due("again " + made, x.again(made), true);
            S.due("the cap", x.border(0, 2), 1);
            S.due("the tape", Look.length(x), 0);
        }
    }

    private static void otherImagesStay() {
        S.says("Promise 39", "other images stay");
        GooseBorder x = new GooseBorder();
        for (int k = 0; k < 3; k++) {
            tell(x, 0, k == 0 ? NONE : 0, "cap " + k + ";");
            S.due("image " + k, x.image(k), true);
        }
        for (int k : new int[] {0, 2, 1, 1, 0, 2}) {
            S.due("again " + k, x.again(k), true);
            S.due("cap of image " + k, x.border(0, 2), k);
            tell(x, 0, 0, "cap 99;");
            S.due("what is told later is not the image's", x.again(k), true);
            S.due("cap of image " + k, x.border(0, 2), k);
        }
        tell(x, 0, 0, "cap 50;");
        S.due("image 1 anew", x.image(1), true);
        for (int k = 0; k < 3; k++) {
            S.due("again " + k, x.again(k), true);
            S.due("cap of image " + k, x.border(0, 2), k == 1 ? 50 : k);
        }
    }

    private static void imagesOfTapeAndFault() {
        S.says("Promise 38", "all that is told (the tape, the FAULT, too), as it is now");
        GooseBorder x = new GooseBorder();
        S.due("of a new one", x.image(0), true);
        for (int sort = 0; sort < 4; sort++) {
            tell(x, sort, NONE, SHORT[sort]);
            tell(x, sort, NONE, "");
        }
        tell(x, 3, 0, "left 1 1;left 1 1;");
        Teller.feed(x, Teller.bytes("cap 1;" + "\n".repeat(588) + "cap 3;"));
        S.due("of a full one", x.image(2), true);
        long full = Look.at(x);
        S.due("the new one again", x.again(0), true);
        S.due("as a new one", Look.at(x), Look.at(new GooseBorder()));
        S.due("feed comes first", x.feed(BLANKS, BLANKS, BLANKS, BLANKS, BLANKS), 20);
        S.due("it is its own tape", x.text(0, NONE), 0);
        Teller.feed(x, Teller.bytes("x".repeat(600)));
        S.due("other bytes all over", Look.length(x), 600);
        S.due("the full one again", x.again(2), true);
        S.due("as the full one", Look.at(x), full);
        S.due("its fault", x.fault(0), 4);
        S.due("its place", x.fault(1), 18);
        S.due("its tape is full", x.feed(0, 0, 0, 0, 0), NONE);
        S.due("its tape's bytes", x.text(0, 1), 1);
        S.due("its tape's bytes", x.border(1, 2), 3);
    }

    private static GooseBorder tapeOf(int length) {
        GooseBorder x = new GooseBorder();
        Teller.feed(x, Teller.bytes(" ".repeat(length)));
        return x;
    }

    private static int tell(GooseBorder x, int sort, int at, String text) {
        return Teller.tell(x, sort, at, text);
    }
}
