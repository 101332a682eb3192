/** Promise by promise: ordinary calls, the edges that the document names, wrong calls; answers worked out by hand. */
public final class PromisesTest {
    private static final Check CHECK = new Check();
    private static final int NONE = GooseBorder.NONE;

    /* Of geese by paths, first: 0: 7, 22; 1: 8, 20; 2: 4, 10. */
    private static final String BORDER =
        "path 2 3 5; path 5 1 0; goose 3 2 1 0 10; goose 1 1 0 1 20; goose 4 4 9 0 30; cap 50;";

    /* By paths 4, 6; 4, 12; 8, 12. */
    private static final String THREE =
        "path 2 1 0;path 3 1 0;goose 1 1 0 0 0;goose 4 4 2 0 0;goose 4 0 0 0 0;";
    private static final String FOUR = "path 1 1 0;" + "goose 1 0 0 0 0;".repeat(3) + "goose 2 0 0 0 0;";
    private static final String TOELESS = "path 1 1 0;".repeat(5) + "goose 0 0 0 0 0;".repeat(8);
    private static final String ALL_SEEN = "left 0 0;left 1 0;left 2 0;left 3 0;left 4 0;";
    private static final String PAID = "march 0 0;march 1 1;";
    private static final String LAW = "each 2;above 20 5;most 45;below 3 7;odd 4;";

    /** Of each promise: how many answers were asked for, and how many of them tell that there is none such. */
    private static final int PROMISES = 39;
    private static final int[] ASKED = new int[PROMISES + 1];
    private static final int[] REFUSED = new int[PROMISES + 1];
    private static int promise;
    private static String name;

    public static void main(String[] args) {
        tapeAndTexts();
        whatIsTold();
        nights();
        marches();
        guardsAndDawns();
        sets();
        all();
        for (int n = 1; n <= PROMISES; n++) {
            CHECK.due("promise " + n + " is tried", ASKED[n] > REFUSED[n], true);
            CHECK.due("promise " + n + " is tried with wrong calls", REFUSED[n] > 0, true);
        }
        CHECK.finish();
    }

    private static void tapeAndTexts() {
        promise(1, "a new object");
        newObject();
        promise(2, "feed");
        feed();
        promise(3, "end");
        end();
        cuts();
        promise(4, "text");
        texts();
        takenTapes();
        promise(5, "fault");
        faults();
    }

    private static void whatIsTold() {
        promise(6, "border");
        border();
        promise(7, "marks");
        marks();
        promise(8, "deed");
        deed();
        promise(13, "term");
        term();
        promise(14, "pays");
        pays();
        promise(21, "seen");
        seen();
    }

    private static void nights() {
        promise(9, "stop");
        stop();
        promise(10, "goose");
        goose();
        promise(11, "path");
        path();
        promise(12, "state");
        state();
        foxes();
        worn();
        promise(25, "who");
        who();
        promise(35, "shift");
        shift();
    }

    private static void marches() {
        promise(15, "even");
        even();
        promise(16, "richest");
        richest();
        promise(17, "tar");
        tar();
        promise(18, "lame");
        lame();
        promise(31, "two");
        two();
        promise(33, "close");
        close();
    }

    private static void guardsAndDawns() {
        promise(19, "rest");
        rest();
        promise(20, "take");
        take();
        promise(29, "honest");
        honest();
        promise(22, "fits");
        fits();
        promise(23, "told");
        told();
        promise(24, "lacks");
        lacks();
        promise(34, "near");
        near();
    }

    private static void sets() {
        promise(26, "drawn");
        drawn();
        promise(27, "alike");
        alike();
        promise(28, "span");
        span();
        promise(30, "split");
        split();
        promise(32, "backs");
        backs();
        promise(36, "thrift");
        thrift();
    }

    private static void all() {
        promise(37, "count");
        count();
        promise(38, "image");
        image();
        promise(39, "again");
        again();
    }

    /** The answers up to the next call of this are due by this promise. */
    private static void promise(int number, String called) {
        promise = number;
        name = "promise " + number + " (" + called + "): ";
    }

    private static void due(String call, long got, long want) {
        ASKED[promise]++;
        REFUSED[promise] += want < 0 ? 1 : 0;
        CHECK.due(name + call, got, want);
    }

    private static void due(String call, boolean got, boolean want) {
        ASKED[promise]++;
        REFUSED[promise] += want ? 0 : 1;
        CHECK.due(name + call, got, want);
    }

    private static GooseBorder with(String border, String night) {
        return Teller.told(border, night, null, null);
    }

    private static void newObject() {
        GooseBorder x = new GooseBorder();
        for (int sort = 0; sort < 4; sort++) {
            due("count of a new one", x.count(sort), 0);
        }
        due("tape of a new one", x.end(1), NONE);
        due("fault of a new one", x.fault(0), 0);
        due("place of a new one", x.fault(1), NONE);
        for (int k = -1; k < 4; k++) {
            due("again " + k, x.again(k), false);
        }
        due("NONE", NONE, -1);
    }

    private static void feed() {
        GooseBorder x = new GooseBorder();
        for (int i = 1; i <= 30; i++) {
            due("feed " + i, x.feed(0x20202020, 0x0a0a0a0a, 0x20202020, 0x0a200a20, 0x20202020), 20 * i);
        }
        due("feed of a full tape", x.feed(1, 2, 3, 4, 5), NONE);
        due("it has as many", x.end(600), 600);
        due("581 are left", x.end(581), 581);
        due("feed of 1 too many", x.feed(0, 0, 0, 0, 0), NONE);
        due("nothing comes", x.end(582), NONE);
        due("580 are left", x.end(580), 580);
        due("feed up to all", x.feed(0x20202020, 0x20202020, 0x20202020, 0x20202020, 0x20202020), 600);
        due("blanks alone are a text", x.text(0, -1), 0);
        due("feed of an empty tape", x.feed(0x63617020, 0x373b8080, 0, 0, 0), 20);
        due("cut behind the text", x.end(6), 6);
        due("the highest byte comes first", x.text(0, 0), 0);
        due("cap 7", x.border(0, 2), 7);
    }

    private static void end() {
        GooseBorder x = new GooseBorder();
        due("end of an empty tape", x.end(0), 0);
        due("end of more than none", x.end(1), NONE);
        due("fed", x.feed(0x63617020, 0x31323b78, 0, 0, 0), 20);
        due("end of all", x.end(20), 20);
        due("end of more", x.end(21), NONE);
        due("end below 0", x.end(-1), NONE);
        due("end below 0", x.end(Integer.MIN_VALUE), NONE);
        due("the tape stays", x.end(20), 20);
        due("end", x.end(7), 7);
        due("end of more than is left", x.end(8), NONE);
        due("its first bytes are a text", x.text(0, -1), 0);
        due("cap 12", x.border(0, 2), 12);
        due("the tape is empty", x.end(1), NONE);
    }

    /** Bytes behind the end are no part of a text, and a full tape has none behind it. */
    private static void cuts() {
        String whole = "cap 12;march;";
        GooseBorder x = new GooseBorder();
        for (int n = 4; n <= 6; n++) {
            Teller.feed(x, Teller.bytes(whole));
            due("cut", x.end(n), n);
            due("a cut text", x.text(0, -1), NONE);
            due("its fault", x.fault(0), 1);
            due("its place", x.fault(1), n);
        }
        for (String last : new String[] {"cap", "cap 9", "cap 999", "cap 999 ", "capcap", "cap 9999"}) {
            due("full, up to " + last, Teller.tell(x, 0, -1, " ".repeat(600 - last.length()) + last), NONE);
            due("its fault", x.fault(0), 1);
            int place = last.equals("capcap") ? 594 : last.equals("cap 9999") ? 596 : 600;
            due("its place", x.fault(1), place);
        }
        due("full", Teller.tell(x, 0, -1, "\n".repeat(592) + "cap 999;"), 0);
        due("cap", x.border(0, 2), 999);
    }

    private static void texts() {
        GooseBorder x = new GooseBorder();
        due("in the place of none", Teller.tell(x, 0, 0, "cap 1;"), -2);
        due("no such sort", Teller.tell(x, 4, -1, "cap 1;"), -2);
        due("no such sort", Teller.tell(x, -1, -1, "cap 1;"), -2);
        due("no such place", Teller.tell(x, 0, -2, "cap 1;"), -2);
        due("none is told by these", x.count(0), 0);
        due("first", Teller.tell(x, 0, -1, "cap 1;"), 0);
        due("second", Teller.tell(x, 0, -1, "cap 2;"), 1);
        due("third", Teller.tell(x, 0, -1, "cap 9;"), -2);
        due("place 2", Teller.tell(x, 0, 2, "cap 9;"), -2);
        due("the old one stays", x.border(0, 2), 1);
        due("in its place", Teller.tell(x, 0, 0, "cap 3;"), 0);
        due("cap 3", x.border(0, 2), 3);
        due("cap 2", x.border(1, 2), 2);
        due("a fault", Teller.tell(x, 0, 1, "cap 5; cap;"), NONE);
        due("the old one stays", x.border(1, 2), 2);
        due("fault", x.fault(0), 1);
        due("place", x.fault(1), 10);
        due("taken all the same", x.end(1), NONE);
        due("none such", x.text(0, 2), -2);
        due("no fault then", x.fault(0), 0);
        due("no place then", x.fault(1), NONE);
        for (int sort = 1; sort < 4; sort++) {
            due("first of " + sort, Teller.tell(x, sort, -1, ""), 0);
            due("second of " + sort, Teller.tell(x, sort, -1, " \n"), 1);
            due("third of " + sort, Teller.tell(x, sort, -1, ""), -2);
            due("count of " + sort, x.count(sort), 2);
        }
    }

    /** Every call of text() takes the tape, also one that reads no text; what an image has of it stays there. */
    private static void takenTapes() {
        int[][] none = {{0, 0}, {0, 1}, {0, -2}, {1, 0}, {3, 2}, {4, -1}, {4, 0}, {-1, -1},
            {Integer.MIN_VALUE, -1}, {Integer.MAX_VALUE, 0}, {0, Integer.MIN_VALUE}, {0, Integer.MAX_VALUE}};
        GooseBorder x = new GooseBorder();
        for (int[] call : none) {
            takenByNone(x, call[0], call[1]);
        }
        for (int sort = 0; sort < 4; sort++) {
            due("first of " + sort, x.text(sort, -1), 0);
            takenByNone(x, sort, 1);
            due("second of " + sort, x.text(sort, -1), 1);
            takenByNone(x, sort, -1);
            takenByNone(x, sort, 2);
        }
        due("fed", x.feed(0x63617020, 0x353b2020, 0x20202020, 0x20202020, 0x20202020), 20);
        due("image", x.image(0), true);
        due("no such sort", x.text(4, -1), -2);
        due("the tape is empty", x.end(1), NONE);
        due("again", x.again(0), true);
        due("the tape is back", x.text(0, 0), 0);
        due("cap 5", x.border(0, 2), 5);
    }

    private static void takenByNone(GooseBorder x, int sort, int at) {
        String name = "text " + sort + " " + at;
        due("fed", x.feed(0x3b3b3b3b, 0, 0, 0, 0), 20);
        due(name, x.text(sort, at), -2);
        due("fault after " + name, x.fault(0), 0);
        due("place after " + name, x.fault(1), NONE);
        due("tape after " + name, x.end(1), NONE);
        due("feed after " + name, x.feed(0, 0, 0, 0, 0), 20);
        due("end after " + name, x.end(0), 0);
    }

    private static void fault(int sort, String text, int fault, int place) {
        GooseBorder x = new GooseBorder();
        due("'" + text + "'", Teller.tell(x, sort, -1, text), fault == 0 ? 0 : NONE);
        due("fault of '" + text + "'", x.fault(0), fault);
        due("place in '" + text + "'", x.fault(1), place);
    }

    private static void faults() {
        GooseBorder x = new GooseBorder();
        for (int what : new int[] {-2, -1, 2, 3, Integer.MIN_VALUE, Integer.MAX_VALUE}) {
            due("fault " + what, x.fault(what), NONE);
        }
        fault(0, "path2 3 5;goose1 2 3 1 9;cap9;", 0, NONE);
        fault(0, "path 020 009 9\n;", 0, NONE);
        fault(0, "path 20 9 9", 1, 11);
        fault(0, "path 20 9 9  ", 1, 13);
        fault(0, "path 21 9 9 ", 1, 12);
        fault(0, "pathx 1 1 1;", 1, 0);
        fault(0, "path 1 1 x;", 1, 9);
        fault(0, "path 1 1 0001;", 1, 9);
        fault(0, ";", 1, 0);
        fault(0, "cap 1;;", 1, 6);
        fault(0, "cap\t1;", 1, 3);
        fault(0, "march 0 0;", 1, 0);
        fault(0, "cap 1 1;", 1, 6);
        fault(0, "\0", 1, 0);
        fault(0, "path 21 10 10;", 2, 5);
        fault(0, "path 0 0 0; x", 1, 12);
        fault(0, "goose 5 0 0 0 0;", 2, 6);
        fault(0, "goose 4 5 0 0 0;", 2, 8);
        fault(0, "goose 4 4 60 1 99;goose 4 4 60 1 100;", 2, 33);
        String five = "path 0 1 1;".repeat(5);
        fault(0, five, 2, 5);
        fault(0, "path 1 1 1;".repeat(5) + "path 0 1 1;", 3, 55);
        fault(0, "path 1 1 1;".repeat(4) + "path 0 1 1;path 1 1 1;", 2, 49);
        fault(0, "cap 1;".repeat(50), 0, NONE);
        fault(0, "goose 0 0 0 0 0;".repeat(8), 0, NONE);
        fault(1, "carry 8 8 0;", 2, 6);
        fault(1, "carry 1 8 5;", 2, 8);
        fault(1, "carry 1 0 5;", 2, 10);
        fault(1, "carry 1 1 5;", 2, 8);
        fault(1, "march 8 0;", 2, 6);
        fault(1, "back 7 5;", 2, 7);
        fault(1, "home 8 5;", 2, 5);
        fault(1, "recast 7 61;", 2, 9);
        fault(1, "rain 10;rain 11;", 2, 13);
        fault(1, "fox 5;", 2, 4);
        fault(1, "thaw;".repeat(24), 0, NONE);
        fault(1, "thaw;".repeat(25), 3, 120);
        fault(1, "thaw;".repeat(25) + "fox 9;", 3, 120);
        fault(1, "thaw;".repeat(120), 3, 120);
        fault(2, "each 9;above 999 99;below 999 99;odd 99;most 999;", 0, NONE);
        fault(2, "odd 100;", 2, 4);
        fault(2, "below 9 100;", 2, 8);
        fault(2, "each 1;".repeat(9), 3, 56);
        fault(3, "left 4 999;left 0 0;", 0, NONE);
        fault(3, "left 4 999;left 4 999; ", 4, 23);
        fault(3, "left 5 1;left 5 1;", 2, 5);
        fault(3, "left 0 1;left 1 1;left 2 1;left 3 1;left 4 1;left 0 1;", 3, 45);
    }

    private static void border() {
        GooseBorder x = with("path 20 9 8;path 1 0 7;goose 4 3 60 1 99;goose 0 1 2 0 5;cap 9;cap 8;", "");
        int[][] wants = {{0, 2}, {1, 2}, {2, 8}, {10, 20}, {11, 1}, {20, 9}, {21, 0}, {30, 8}, {31, 7}, {40, 4},
            {41, 0}, {50, 3}, {51, 1}, {60, 60}, {61, 2}, {70, 1}, {71, 0}, {80, 99}, {81, 5}};
        for (int[] want : wants) {
            due("border " + want[0], x.border(0, want[0]), want[1]);
        }
        for (int what : new int[] {-1, 3, 9, 12, 19, 22, 32, 39, 42, 52, 62, 72, 82, 89, 90, Integer.MIN_VALUE}) {
            due("border " + what, x.border(0, what), -2);
        }
        due("no such border", x.border(1, 0), -2);
        due("no such border", x.border(-1, 0), -2);
        due("no cap", with("", "").border(0, 2), NONE);
    }

    private static void marks() {
        GooseBorder x = with("path 3 1 0;goose 0 0 2 0 0;goose 4 4 0 1 0;goose 4 0 1 1 0;", "");
        due("boots on no toes", x.marks(0, 0, 0, false), 4);
        due("no toes in frost", x.marks(0, 0, 0, true), 0);
        due("limping toes", x.marks(0, 1, 0, false), 48);
        due("limping toes in frost", x.marks(0, 1, 0, true), 48);
        due("limping in boots", x.marks(0, 2, 0, false), 20);
        due("limping in boots, in frost", x.marks(0, 2, 0, true), 16);
        for (int wrong : new int[] {-1, 3, 9}) {
            due("marks of goose " + wrong, x.marks(0, wrong, 0, false), NONE);
            due("marks on path " + wrong, x.marks(0, 0, wrong, false), NONE);
            due("marks of border " + wrong, x.marks(wrong, 0, 0, true), NONE);
        }
    }

    private static void deed() {
        String night = "march 1 2;back 3 4;home 5 0;carry 7 6 1;recast 2 33;rain 10;frost;thaw;fox 4;";
        GooseBorder x = with("", night);
        int[][] wants = {{0, 1, 2, -1}, {1, 3, 4, -1}, {2, 5, 0, -1}, {3, 7, 6, 1}, {4, 2, 33, -1}, {5, 10, -1, -1},
            {6, -1, -1, -1}, {7, -1, -1, -1}, {8, 4, -1, -1}};
        due("deeds", x.deed(0, -1, 0), 9);
        for (int k = 0; k < 9; k++) {
            for (int what = 0; what < 4; what++) {
                due("deed " + k + " " + what, x.deed(0, k, what), wants[k][what]);
            }
        }
        int[][] wrong = {{0, -1, 1}, {0, -2, 0}, {0, 9, 0}, {0, 0, 4}, {0, 0, -1}, {1, -1, 0}, {-1, 0, 0}};
        for (int[] w : wrong) {
            due("deed of none", x.deed(w[0], w[1], w[2]), -2);
        }
    }

    private static int stopOf(String night) {
        return with(BORDER, night).stop(0, 0);
    }

    private static void stop() {
        due("no deeds", stopOf(""), 0);
        due("all", stopOf("march 0 0;home 0 1;back 0 0;home 0 0;march 0 1;"), 5);
        due("no such goose", stopOf("rain 1;march 3 0;"), 1);
        due("no such path", stopOf("frost;thaw;march 0 2;"), 2);
        due("march when over", stopOf("march 0 0;march 0 0;"), 1);
        due("back when over", stopOf("march 0 0;back 0 0;"), 1);
        due("home when home", stopOf("home 0 0;"), 0);
        due("carry when over", stopOf("march 0 0;carry 0 1 0;"), 1);
        due("carry one who is over", stopOf("march 1 0;carry 0 1 0;"), 1);
        due("carry one who is not there", stopOf("carry 0 3 0;"), 0);
        due("carry by no path", stopOf("carry 0 1 2;"), 0);
        due("the carried one goes home", stopOf("carry 0 1 0;home 1 0;"), 2);
        due("recast anywhere", stopOf("recast 0 5;march 0 0;recast 0 5;"), 3);
        due("recast no such goose", stopOf("recast 3 5;"), 0);
        due("recast one who is eaten", stopOf("march 0 0;fox 0;recast 0 5;"), 2);
        due("fox where nobody went", stopOf("march 0 0;fox 1;"), 1);
        due("fox where all are eaten", stopOf("march 0 0;fox 0;fox 0;"), 2);
        due("fox by no path", stopOf("fox 2;"), 0);
        due("one who is eaten", stopOf("march 0 0;fox 0;home 0 0;"), 2);
        GooseBorder x = with(BORDER, "march 0 0;march 0 0;");
        due("stop of none", x.stop(1, 0), NONE);
        due("stop of none", x.stop(0, 1), NONE);
        due("stop of none", x.stop(-1, 0), NONE);
    }

    private static void goose() {
        GooseBorder x = with(BORDER, "carry 2 0 1;home 0 0;march 2 0;");
        due("who carries is over", x.goose(0, 0, 1, 2, 0), 1);
        due("who is carried is over", x.goose(0, 0, 1, 0, 0), 1);
        due("who stays is home", x.goose(0, 0, 1, 1, 0), 0);
        due("who comes back is home", x.goose(0, 0, 2, 0, 0), 0);
        due("who carries wears boots", x.goose(0, 0, 1, 2, 1), 4);
        due("who is carried wears none", x.goose(0, 0, 1, 0, 1), 1);
        due("who goes home wears them", x.goose(0, 0, 2, 0, 1), 0);
        due("who carries leaves", x.goose(0, 0, 1, 2, 2), 10);
        due("who is carried leaves nothing", x.goose(0, 0, 1, 0, 2), 0);
        due("going home is of the trail", x.goose(0, 0, 2, 0, 2), 7);
        due("who is carried went, too", x.goose(0, 0, 1, 0, 3), 1);
        due("the latest path", x.goose(0, 0, 2, 0, 3), 0);
        due("who has not gone", x.goose(0, 0, 1, 1, 3), NONE);
        due("who is eaten", with(BORDER, "march 0 0;fox 0;").goose(0, 0, 2, 0, 0), 2);
        due("beyond stop", x.goose(0, 0, 3, 0, 0), -2);
        due("below 0", x.goose(0, 0, -1, 0, 0), -2);
        due("what 4", x.goose(0, 0, 1, 0, 4), -2);
        due("what -1", x.goose(0, 0, 1, 0, -1), -2);
        due("goose 3", x.goose(0, 0, 1, 3, 0), -2);
        due("goose -1", x.goose(0, 0, 1, -1, 0), -2);
        due("of no night", x.goose(0, 1, 1, 0, 0), -2);
        due("of no border", x.goose(1, 0, 1, 0, 0), -2);
    }

    private static void path() {
        GooseBorder x = with(BORDER, "march 1 0;back 0 0;rain 3;frost;march 2 1;thaw;home 1 1;rain 10;march 2 0;");
        due("marks", x.path(0, 0, 2, 0, 0), 8);
        due("exports", x.path(0, 0, 2, 0, 1), 7);
        due("tally", x.path(0, 0, 2, 0, 2), 1);
        due("marks in rain", x.path(0, 0, 3, 0, 0), 6);
        due("exports in rain", x.path(0, 0, 3, 0, 1), 5);
        due("washed away", x.path(0, 0, 3, 0, 5), 4);
        due("boots leave nothing in frost", x.path(0, 0, 5, 1, 0), 0);
        due("boots wear in frost", x.goose(0, 0, 5, 2, 1), 4);
        due("no frost", x.path(0, 0, 7, 1, 1), 20);
        due("no tally below 0", x.path(0, 0, 7, 1, 2), 0);
        due("trail of all", x.goose(0, 0, 7, 1, 2), 28);
        due("all washed away", x.path(0, 0, 8, 1, 5), 20);
        due("all washed away", x.path(0, 0, 8, 0, 5), 15);
        due("the trail stays", x.goose(0, 0, 8, 1, 2), 28);
        GooseBorder paid = with(BORDER, "march 0 0;march 1 1;");
        due("padded", paid.path(0, 0, 1, 0, 3), 10);
        due("pay", paid.path(0, 0, 1, 0, 4), 30);
        due("padded by none", paid.path(0, 0, 2, 1, 3), 20);
        due("carried, so one leaves marks", with(BORDER, "carry 2 0 1;").path(0, 0, 1, 1, 0), 10);
        due("beyond stop", x.path(0, 0, 9, 0, 0), -2);
        due("below 0", x.path(0, 0, -1, 0, 0), -2);
        due("what 6", x.path(0, 0, 1, 0, 6), -2);
        due("what -1", x.path(0, 0, 1, 0, -1), -2);
        due("path 2", x.path(0, 0, 1, 2, 0), -2);
        due("path -1", x.path(0, 0, 1, -1, 0), -2);
        due("of no border", x.path(1, 0, 1, 0, 0), -2);
        due("of no night", x.path(0, 1, 1, 0, 0), -2);
    }

    private static void state() {
        GooseBorder x = with(BORDER, "frost;carry 2 0 1;thaw;home 0 0;march 2 0;");
        due("all are home at first", x.state(0, 0, 0, 0), 7);
        due("frost", x.state(0, 0, 1, 8), 1);
        due("thaw", x.state(0, 0, 3, 8), 0);
        due("home", x.state(0, 0, 4, 0), 3);
        due("over", x.state(0, 0, 4, 1), 4);
        due("nobody is eaten", x.state(0, 0, 4, 2), 0);
        due("worth of who is home", x.state(0, 0, 4, 3), 30);
        due("worth of who is over", x.state(0, 0, 4, 4), 30);
        due("worth of nobody", x.state(0, 0, 4, 5), 0);
        due("all pay", with(BORDER, "march 0 0;march 1 1;").state(0, 0, 2, 7), 50);
        due("beyond stop", x.state(0, 0, 5, 0), -2);
        due("below 0", x.state(0, 0, -1, 0), -2);
        due("what 9", x.state(0, 0, 0, 9), -2);
        due("what -1", x.state(0, 0, 0, -1), -2);
        due("of no border", x.state(1, 0, 0, 0), -2);
        due("of no night", x.state(0, 1, 0, 0), -2);
    }

    private static void foxes() {
        GooseBorder x = with(BORDER, "march 0 0;march 1 0;home 0 1;fox 0;fox 0;fox 1;");
        due("the latest by that path", x.state(0, 0, 4, 2), 2);
        due("the next, wherever it is", x.state(0, 0, 5, 2), 3);
        due("worth of the eaten", x.state(0, 0, 5, 5), 30);
        due("nobody is left", x.stop(0, 0), 5);
        GooseBorder again = with(BORDER, "march 0 0;march 1 0;home 0 0;fox 0;");
        due("its latest going counts", again.state(0, 0, 4, 2), 1);
        GooseBorder carried = with(BORDER, "march 0 0;carry 1 2 0;fox 0;fox 0;fox 0;");
        due("who carries is eaten, not who is carried", carried.state(0, 0, 3, 2), 2);
        due("then who went ahead", carried.state(0, 0, 4, 2), 3);
        due("never who was carried", carried.stop(0, 0), 4);
        due("it stays over", carried.state(0, 0, 4, 1), 4);
    }

    private static void worn() {
        GooseBorder x = with(BORDER, "march 0 0;march 1 0;recast 0 2;recast 1 0;home 0 0;");
        due("nobody at first", x.state(0, 0, 0, 6), 0);
        due("worn through", x.state(0, 0, 1, 6), 1);
        due("never had some", x.state(0, 0, 2, 6), 1);
        due("recast", x.state(0, 0, 3, 6), 0);
        due("recast with none", x.state(0, 0, 4, 6), 2);
        due("recast boots wear", x.state(0, 0, 5, 6), 3);
        due("recast boots leave marks", x.path(0, 0, 5, 0, 1), 4);
    }

    private static void pays() {
        GooseBorder x = Teller.told(null, null, LAW, null);
        int[][] wants = {{0, 7}, {1, 13}, {2, 11}, {3, 10}, {20, 40}, {21, 49}, {22, 45}, {9999, 49}};
        for (int[] want : wants) {
            due("pays " + want[0], x.pays(0, want[0]), want[1]);
        }
        due("pays -1", x.pays(0, -1), NONE);
        due("pays 10000", x.pays(0, 10000), NONE);
        due("pays by none", x.pays(1, 0), NONE);
        due("no terms", Teller.told(null, null, "", null).pays(0, 9), 0);
    }

    private static void term() {
        GooseBorder x = Teller.told(null, null, LAW, null);
        int[][] terms = {{0, 2, -1}, {1, 20, 5}, {4, 45, -1}, {2, 3, 7}, {3, 4, -1}};
        due("terms", x.term(0, -1, 0), 5);
        for (int k = 0; k < 5; k++) {
            for (int what = 0; what < 3; what++) {
                due("term " + k + " " + what, x.term(0, k, what), terms[k][what]);
            }
        }
        int[][] wrong = {{0, -1, 1}, {0, -2, 0}, {0, 5, 0}, {0, 0, 3}, {0, 0, -1}, {1, -1, 0}, {-1, 0, 0}};
        for (int[] w : wrong) {
            due("term of none", x.term(w[0], w[1], w[2]), -2);
        }
    }

    private static void even() {
        GooseBorder x = with(BORDER, "");
        int[][] wants = {{0, 0}, {10, 0}, {11, 1}, {12, 1}, {20, 30}, {21, 30}, {13, -1}, {22, -1}, {1, -1}, {9, -1},
            {19, -1}, {-1, -1}};
        for (int[] want : wants) {
            due("even " + want[0], x.even(0, want[0]), want[1]);
        }
        due("even of none", x.even(1, 0), NONE);
        GooseBorder alike = with("path 1 1 0;path 1 1 0;" + "goose 1 0 0 0 0;".repeat(6), "");
        due("even 0", alike.even(0, 0), 0);
        for (int g = 0; g < 6; g++) {
            due("the first row, goose " + g, alike.even(0, 10 + g), g / 3);
        }
        due("7 geese", with("path 1 1 0;" + "goose 1 0 0 0 0;".repeat(7), "").even(0, 0), NONE);
        due("no paths", with("goose 1 0 0 0 0;", "").even(0, 0), NONE);
        due("no geese", with("path 1 1 0;path 2 2 2;", "").even(0, 0), 0);
        due("no geese, pay", with("path 1 1 0;path 2 2 2;", "").even(0, 21), 0);
    }

    private static void richest() {
        GooseBorder x = Teller.told(BORDER, null, "each 1;most 40;odd 1;", null);
        /* rows by what is padded: 0 0 1: 15 + 7 = 22 and 10; 0 1 1: 10 and 30; 1 0 1: 12 and 32;
           1 1 0: 6 and 40 of 42; 1 1 1: 40 of 52; 0 1 0: 16 and 20; 0 0 0: 28; 1 0 0: 18 and 22 */
        due("richest", x.richest(0, 0, 0), 46);
        due("richest goose 0", x.richest(0, 0, 10), 1);
        due("richest goose 1", x.richest(0, 0, 11), 1);
        due("richest goose 2", x.richest(0, 0, 12), 0);
        due("richest goose 3", x.richest(0, 0, 13), NONE);
        due("richest 20", x.richest(0, 0, 20), NONE);
        due("richest 1", x.richest(0, 0, 1), NONE);
        due("no such law", x.richest(0, 1, 0), NONE);
        due("no such border", x.richest(1, 0, 0), NONE);
        GooseBorder empty = Teller.told("path 1 0 0;path 1 0 0;", null, "below 5 9;", null);
        due("paid for nothing", empty.richest(0, 0, 0), 18);
        GooseBorder many = Teller.told("path 1 1 0;" + "goose 1 0 0 0 0;".repeat(7), null, "", null);
        due("7 geese", many.richest(0, 0, 0), NONE);
        due("no paths", Teller.told("", null, "", null).richest(0, 0, 0), NONE);
    }

    private static void tar() {
        GooseBorder x = with(BORDER, "");
        int[][] wants = {{9999, 0}, {34, 0}, {33, 1}, {28, 1}, {27, 2}, {22, 2}, {21, 3}, {19, 3}, {18, 4}, {16, 4},
            {15, -1}, {0, -1}, {-1, -1}, {10000, -1}};
        for (int[] want : wants) {
            due("tar " + want[0], x.tar(0, 0, want[0]), want[1]);
        }
        due("tar of none", x.tar(0, 2, 5), NONE);
        due("tar of none", x.tar(1, 0, 5), NONE);
        due("boots are no good for it", with("path 9 1 1;goose 1 0 0 1 0;", "").tar(0, 0, 17), NONE);
        due("no geese", with("path 9 1 1;", "").tar(0, 0, 0), 0);
        due("limping ones first", with("path 2 1 1;goose 2 1 0 1 0;goose 2 1 0 0 0;", "").tar(0, 0, 14), 2);
    }

    private static void lame() {
        GooseBorder x = with(BORDER, "");
        due("lame 0", x.lame(0, 0, -1), 18);
        due("lame 1", x.lame(0, 1, -1), 10);
        due("lame 2", x.lame(0, 2, -1), NONE);
        due("lame of none", x.lame(1, 0, -1), NONE);
        due("best of 0", x.lame(0, 77, 0), 0);
        due("best of 1", x.lame(0, -1, 1), 0);
        due("best of 3", x.lame(0, 0, 3), NONE);
        due("no paths", with("goose 1 1 1 1 1;", "").lame(0, 0, 0), NONE);
        GooseBorder other = with("path 1 0 0;path 2 1 0;path 1 2 0;goose 1 1 0 0 0;goose 0 0 0 0 0;", "");
        due("of several the least", other.lame(0, 0, 0), 1);
        due("paid nothing at all", other.lame(0, 0, 1), 0);
        due("goose 8 is none: of the path", other.lame(0, 1, 8), 0);
    }

    private static void rest() {
        GooseBorder x = with(BORDER, PAID);
        due("rest", x.rest(0, 0, -1), 2);
        due("rest 0", x.rest(0, 0, 0), 1);
        due("rest 1", x.rest(0, 0, 1), 3);
        due("rest 2", x.rest(0, 0, 2), -2);
        due("rest -2", x.rest(0, 0, -2), -2);
        due("rest of none", x.rest(1, 0, -1), -2);
        due("rest of none", x.rest(0, 1, -1), -2);
        GooseBorder caught = with(BORDER.replace("50", "49"), PAID);
        due("rest is not to pad", caught.rest(0, 0, -1), 2);
        due("rest is not to pad", caught.rest(0, 0, 0), 0);
        due("rest is not to pad", caught.rest(0, 0, 1), 2);
        due("no paths", with("", "").rest(0, 0, -1), 1);
        due("no paths", with("", "").rest(0, 0, 0), 0);
    }

    private static void take() {
        GooseBorder x = with(BORDER, PAID);
        due("take", x.take(0, 0, 1, 0), 30);
        due("take", x.take(0, 0, 0, 0), 21);
        due("take of set 4", x.take(0, 0, 4, 0), NONE);
        due("take of set -1", x.take(0, 0, -1, 0), NONE);
        due("take of path 2", x.take(0, 0, 0, 2), NONE);
        due("take of none", x.take(1, 0, 0, 0), NONE);
        due("take of none", x.take(0, 1, 0, 0), NONE);
        GooseBorder caught = with(BORDER.replace("50", "49"), PAID);
        due("above the cap", caught.take(0, 0, 1, 0), 0);
        due("who does not pad gets his", caught.take(0, 0, 1, 1), 20);
        GooseBorder free = with(BORDER.replace("cap 50;", ""), PAID);
        due("no cap", free.take(0, 0, 3, 0), 30);
        due("cap 0", with(BORDER.replace("50", "0"), PAID).take(0, 0, 3, 1), 0);
    }

    private static void honest() {
        GooseBorder x = with(BORDER, PAID);
        due("honest", x.honest(0, 0, 0), 9);
        due("honest without a pad", x.honest(0, 0, 1), 0);
        due("honest of none", x.honest(0, 0, 2), NONE);
        due("honest of none", x.honest(0, 1, 0), NONE);
        due("honest of none", x.honest(1, 0, 0), NONE);
    }

    private static void seen() {
        GooseBorder x = Teller.told(null, null, null, "left 4 999;left 0 0;");
        due("seen", x.seen(0, -1, 0), 2);
        due("seen 0", x.seen(0, 0, 0), 4);
        due("seen 0", x.seen(0, 0, 1), 999);
        due("seen 1", x.seen(0, 1, 0), 0);
        due("seen 1", x.seen(0, 1, 1), 0);
        int[][] wrong = {{0, -1, 1}, {0, -1, -1}, {0, -2, 0}, {0, 2, 0}, {0, 0, 2}, {0, 0, -1}, {1, -1, 0}, {-1, 0, 0}};
        for (int[] w : wrong) {
            due("seen of none", x.seen(w[0], w[1], w[2]), -2);
        }
    }

    private static GooseBorder dawn(String border, String dawn) {
        return Teller.told(border, null, null, dawn);
    }

    private static void fits() {
        GooseBorder x = dawn(BORDER, "left 0 11;left 1 20;");
        due("fits", x.fits(0, 0), 1);
        due("fits of none", x.fits(1, 0), NONE);
        due("fits of none", x.fits(0, 1), NONE);
        due("no way", dawn(BORDER, "left 0 5;left 1 10;").fits(0, 0), 0);
        due("several ways", dawn(FOUR, "left 0 2;").fits(0, 0), 4);
        due("all ways there are", dawn(TOELESS, ALL_SEEN).fits(0, 0), 1679616);
        due("nothing is seen", dawn(BORDER, "").fits(0, 0), 1);
        due("a path that is not there", dawn(BORDER, "left 3 1;").fits(0, 0), 0);
        due("a path that is not there, with nothing", dawn(BORDER, "left 3 0;").fits(0, 0), 1);
    }

    private static void told() {
        GooseBorder x = dawn(BORDER, "left 0 11;left 1 20;");
        due("fewest", x.told(0, 0, 0), 3);
        due("most", x.told(0, 0, 1), 3);
        due("sure", x.told(0, 0, 2), 7);
        due("toe", x.told(0, 0, 3), 1);
        due("by of 0", x.told(0, 0, 10), 1);
        due("by of 1", x.told(0, 0, 11), 2);
        due("by of 3", x.told(0, 0, 13), -2);
        due("told 4", x.told(0, 0, 4), -2);
        due("told -1", x.told(0, 0, -1), -2);
        due("told of none", x.told(1, 0, 3), -2);
        due("told of none", x.told(0, 1, 3), -2);
        GooseBorder none = dawn(BORDER, "left 0 5;left 1 10;");
        due("no way", none.told(0, 0, 0), -2);
        due("no way", none.told(0, 0, 10), -2);
        due("but toe", none.told(0, 0, 3), 2);
        due("no toe", dawn(BORDER, "left 0 1;").told(0, 0, 3), NONE);
        GooseBorder several = dawn(FOUR, "left 0 2;");
        due("fewest", several.told(0, 0, 0), 1);
        due("most", several.told(0, 0, 1), 2);
        due("sure", several.told(0, 0, 2), 0);
        due("by", several.told(0, 0, 13), 1);
        due("by any path", dawn(TOELESS, ALL_SEEN).told(0, 0, 17), 31);
        due("nobody went", dawn(BORDER, "").told(0, 0, 1), 0);
        due("nobody goes by what is not there", dawn(BORDER, "left 3 0;").told(0, 0, 10), 0);
    }

    private static void lacks() {
        GooseBorder x = Teller.told(BORDER, "march 0 0;march 1 1;", null, "left 0 7;left 1 19;");
        due("lacks", x.lacks(0, 0, 0), 2);
        due("lacks of none", x.lacks(1, 0, 0), NONE);
        due("lacks of none", x.lacks(0, 1, 0), NONE);
        due("lacks of none", x.lacks(0, 0, 1), NONE);
        due("second dawn", Teller.tell(x, 3, -1, "left 1 20;left 4 0;"), 1);
        due("nothing is left where nothing is seen", x.lacks(0, 0, 1), 1);
    }

    private static void who() {
        GooseBorder x = with(BORDER, "march 1 0;rain 5;march 0 0;carry 2 1 0;");
        due("stop", x.stop(0, 0), 3);
        due("tally", x.path(0, 0, 3, 0, 2), 11);
        due("without the first", x.who(0, 0, 0, 7), 0);
        due("without the second", x.who(0, 0, 0, 4), 2);
        due("nobody", x.who(0, 0, 0, 11), NONE);
        due("nobody", x.who(0, 0, 1, 0), NONE);
        due("who of none", x.who(0, 0, 2, 0), NONE);
        due("who of none", x.who(1, 0, 0, 0), NONE);
        due("who of none", x.who(0, 1, 0, 0), NONE);
        GooseBorder carried = with(BORDER, "carry 2 1 0;march 0 0;");
        due("a carry is no march", carried.who(0, 0, 0, 7), NONE);
        due("a march behind it", carried.who(0, 0, 0, 4), 1);
        GooseBorder rain = with("path 1 1 0;goose 4 4 0 0 0;goose 4 3 0 0 0;", "march 0 0;march 1 0;rain 5;");
        due("rain cuts what is there", rain.who(0, 0, 0, 4), 0);
        GooseBorder several = with("path 1 1 0;goose 1 1 0 0 0;goose 1 1 0 0 0;", "march 0 0;march 1 0;");
        due("of several the first", several.who(0, 0, 0, 2), 0);
        due("boots as they came", with("path 1 1 0;goose 4 4 1 0 0;", "march 0 0;home 0 0;march 0 0;").who(0, 0, 0, 0), 0);
    }

    private static void drawn() {
        GooseBorder x = with("path 1 1 9;goose 1 1 0 0 0;", "");
        /* seed 0: x = 12345 : 0; then 3554416254 : 54236, 54236 % 11 = 6 tenths; then 2802067423 : 42756, 6 < 9 */
        due("tallies: 1 of 2 is washed away", x.drawn(0, 0, 1, 0), 1);
        due("pay", x.drawn(0, 0, 1, 1), 1);
        due("children", x.drawn(0, 0, 1, 2), 1);
        due("tallies of path 0", x.drawn(0, 0, 1, 10), 1);
        due("trails of goose 0", x.drawn(0, 0, 1, 20), 2);
        due("trails of 20 nights", x.drawn(0, 0, 20, 20), 40);
        for (int what : new int[] {-1, 3, 9, 11, 19, 21, 28}) {
            due("drawn " + what, x.drawn(0, 0, 1, what), NONE);
        }
        due("no nights", x.drawn(0, 0, 0, 0), NONE);
        due("21 nights", x.drawn(0, 0, 21, 0), NONE);
        due("drawn of none", x.drawn(1, 0, 1, 0), NONE);
        due("no paths", with("goose 1 1 0 0 0;", "").drawn(0, 0, 1, 0), NONE);
        due("boots as new", with("path 1 1 9;goose 4 4 1 0 0;", "").drawn(0, -5, 20, 20), 40);
    }

    private static void alike() {
        GooseBorder x = with(THREE, "");
        due("alike 0 1", x.alike(0, 0, 1), 1);
        due("alike 2 1", x.alike(0, 2, 1), 2);
        due("alike 0 2", x.alike(0, 0, 2), 0);
        due("alike 1 1", x.alike(0, 1, 1), NONE);
        due("alike 0 3", x.alike(0, 0, 3), NONE);
        due("alike -1 0", x.alike(0, -1, 0), NONE);
        due("alike of none", x.alike(1, 0, 1), NONE);
    }

    private static void span() {
        GooseBorder x = with(THREE, "");
        due("span 0", x.span(0, 1, 0, true), 0);
        due("span 1", x.span(0, 1, 1, false), 6);
        due("span 1, most", x.span(0, 1, 1, true), 12);
        due("span 2", x.span(0, 1, 2, false), 18);
        due("span 2, most", x.span(0, 1, 2, true), 24);
        due("span 3", x.span(0, 1, 3, false), 30);
        due("span 4", x.span(0, 1, 4, false), NONE);
        due("span -1", x.span(0, 1, -1, true), NONE);
        due("span of none", x.span(0, 2, 1, false), NONE);
        due("span of none", x.span(1, 0, 1, false), NONE);
    }

    private static void split() {
        GooseBorder x = with(BORDER, "");
        due("split", x.split(0, 0, 1, false), 3);
        due("split apart", x.split(0, 0, 1, true), 5);
        due("the other way", x.split(0, 1, 0, false), 4);
        due("split 0 0", x.split(0, 0, 0, false), NONE);
        due("split 0 2", x.split(0, 0, 2, false), NONE);
        due("split of none", x.split(1, 0, 1, true), NONE);
        GooseBorder alike = with("path 1 1 0;path 1 1 0;goose 1 0 0 0 0;goose 1 0 0 0 0;", "");
        due("of several the least", alike.split(0, 0, 1, false), 1);
        due("no geese", with("path 1 1 0;path 1 1 0;", "").split(0, 0, 1, true), 0);
    }

    private static void two() {
        GooseBorder x = with("path 2 1 5;path 1 2 0;goose 4 4 2 0 0;", "");
        due("other", Teller.tell(x, 0, -1, "path 1 1 0;path 1 9 0;"), 1);
        /* 0 first: 4 marks, 6 pence, no boots left: 8 or 72; 1 first: 2 marks, 4 pence, boots for 1 mile: 2 or 18 */
        due("first path", x.two(0, 0, 1, 0), 0);
        due("second path", x.two(0, 0, 1, 1), 1);
        due("pay", x.two(0, 0, 1, 2), 78);
        /* 0 0: 6 and 24; 0 1: 6 and 16; 1 0: 4 and 15 */
        due("of the same border", x.two(0, 0, 0, 2), 30);
        due("first path", x.two(0, 0, 0, 0), 0);
        due("second path", x.two(0, 0, 0, 1), 0);
        due("no such goose", x.two(1, 0, 0, 0), NONE);
        due("no such border", x.two(0, 0, 2, 0), NONE);
        due("no such border", x.two(-1, 0, 0, 0), NONE);
        due("two 3", x.two(0, 0, 0, 3), NONE);
        due("two -1", x.two(0, 0, 0, -1), NONE);
        due("a border without paths", Teller.tell(x, 0, 1, ""), 1);
        due("a border without paths", x.two(0, 0, 1, 0), NONE);
        due("a border without paths", x.two(0, 0, 1, 2), NONE);
        GooseBorder alike = with("path 1 0 0;path 1 0 0;goose 1 1 1 1 1;", "");
        due("the first by rows", alike.two(0, 0, 0, 0), 0);
        due("the first by rows", alike.two(0, 0, 0, 1), 0);
        due("paid nothing", alike.two(0, 0, 0, 2), 0);
    }

    private static void backs() {
        GooseBorder x = with(BORDER, "");
        /* 7, 8, 4 */
        int[][] wants = {{9999, 0}, {19, 0}, {18, 1}, {5, 1}, {4, 2}, {3, 2}, {2, 3}, {0, 3}};
        for (int[] want : wants) {
            due("backs " + want[0], x.backs(0, 0, want[0], false), want[1]);
            due("how many " + want[0], x.backs(0, 0, want[0], true), Integer.bitCount(want[1]));
        }
        due("backs -1", x.backs(0, 0, -1, false), NONE);
        due("backs 10000", x.backs(0, 0, 10000, true), NONE);
        due("backs of none", x.backs(0, 2, 1, false), NONE);
        due("backs of none", x.backs(1, 0, 1, false), NONE);
        due("no geese", with("path 1 1 0;", "").backs(0, 0, 0, false), 0);
    }

    private static void close() {
        GooseBorder x = with(BORDER, "");
        due("close", x.close(0, false), 0);
        due("apart", x.close(0, true), 0);
        due("close of none", x.close(1, false), NONE);
        due("one path", with("path 1 1 1;", "").close(0, false), NONE);
        due("7 geese", with("path 1 1 1;path 1 1 1;" + "goose 1 0 0 0 0;".repeat(7), "").close(0, true), NONE);
        GooseBorder three = with("path 1 1 0;path 1 9 0;path 1 1 0;goose 1 0 0 0 0;goose 1 0 0 0 0;", "");
        due("without the second", three.close(0, false), 1);
        due("then they are paid alike", three.close(0, true), 0);
        due("they were not", three.even(0, 0), 1);
        GooseBorder unlike = with("path 1 1 0;path 1 9 0;path 1 1 0;goose 4 4 0 0 0;", "");
        due("of several the least", unlike.close(0, false), 0);
        due("apart then", unlike.close(0, true), 8);
    }

    private static void near() {
        GooseBorder x = dawn(BORDER, "left 0 11;left 1 26;left 4 9;left 3 0;");
        due("near", x.near(0, 0, 0), 5);
        due("near, not quite", x.near(0, 0, 1), 1);
        due("no such path", x.near(0, 0, 2), NONE);
        due("near 4", x.near(0, 0, 4), NONE);
        due("near -1", x.near(0, 0, -1), NONE);
        due("near of none", x.near(1, 0, 0), NONE);
        due("near of none", x.near(0, 1, 0), NONE);
        due("of several the least", dawn(BORDER, "left 0 2;").near(0, 0, 0), 0);
        due("no geese", dawn("path 1 1 1;", "left 0 99;").near(0, 0, 0), 0);
    }

    private static void shift() {
        GooseBorder x = with(BORDER, "march 0 0;march 1 0;rain 10;march 2 1;");
        due("which ones", x.shift(0, 0, false), 1);
        /* 8 marks and 10 by 1: 12 padded, 36 and 10 */
        due("all pay then", x.shift(0, 0, true), 46);
        due("shift of none", x.shift(1, 0, false), NONE);
        due("shift of none", x.shift(0, 1, true), NONE);
        due("nothing better", with(BORDER, "rain 10;march 0 0;").shift(0, 0, false), NONE);
        due("nothing better", with(BORDER, "rain 10;march 0 0;").shift(0, 0, true), NONE);
        due("one deed", with(BORDER, "march 0 0;").shift(0, 0, false), NONE);
        due("stop no less", with(BORDER, "march 0 0;home 0 1;rain 10;").shift(0, 0, false), NONE);
        due("both ahead of stop", with(BORDER, "march 0 0;rain 10;home 1 0;").shift(0, 0, false), 0);
        due("only ahead of stop", with(BORDER, "march 0 0;home 1 0;rain 10;").shift(0, 0, false), NONE);
        GooseBorder several = with("path 1 1 0;goose 1 0 0 0 0;goose 1 0 0 0 0;", "march 0 0;rain 10;rain 10;march 1 0;");
        due("both rains ahead", several.shift(0, 0, false), NONE);
        GooseBorder first = with("path 1 1 0;goose 1 0 1 0 0;", "frost;march 0 0;thaw;");
        due("of several the first", first.shift(0, 0, false), 0);
        due("of several the first, pay", first.shift(0, 0, true), 2);
        GooseBorder most = with("path 1 1 0;goose 4 4 0 0 0;goose 1 1 0 0 0;", "march 1 0;rain 10;march 0 0;rain 10;");
        due("the most, not the first", most.shift(0, 0, false), 2);
        due("the most, not the first, pay", most.shift(0, 0, true), 8);
        /* the fox takes another one, so that a later deed can be, and more is paid at the later end */
        GooseBorder later = with("path 1 1 0;goose 1 0 0 0 0;goose 1 1 0 0 0;goose 4 4 0 0 0;",
            "march 0 0;march 1 0;fox 0;recast 1 5;march 2 0;");
        due("stop of it", later.stop(0, 0), 3);
        due("stop grows", later.shift(0, 0, false), 0);
        due("pay at the later end", later.shift(0, 0, true), 11);
    }

    private static void thrift() {
        due("thrift", with(BORDER, "").thrift(0), 3);
        due("thrift of none", with(BORDER, "").thrift(1), NONE);
        due("a guard without a rate", with("path 1 0 9;goose 1 1 1 1 1;", "").thrift(0), NONE);
        due("too few geese", with("path 1 1 0;path 1 1 0;goose 1 1 1 1 1;", "").thrift(0), NONE);
        due("one leaves nothing", with("path 1 1 0;goose 0 0 0 0 0;goose 0 1 0 0 0;", "").thrift(0), 2);
        due("boots for the short path only", with("path 1 1 0;path 2 1 0;goose 0 0 1 0 0;goose 0 0 0 0 0;goose 0 0 9 0 0;",
            "").thrift(0), 5);
        due("no paths", with("goose 1 1 1 1 1;", "").thrift(0), 0);
    }

    private static void count() {
        GooseBorder x = new GooseBorder();
        for (int sort = 0; sort < 4; sort++) {
            due("none of " + sort, x.count(sort), 0);
            due("first of " + sort, Teller.tell(x, sort, -1, ""), 0);
            due("one of " + sort, x.count(sort), 1);
            due("in its place", Teller.tell(x, sort, 0, ""), 0);
            due("still one of " + sort, x.count(sort), 1);
            due("a fault", Teller.tell(x, sort, -1, "x"), NONE);
            due("still one of " + sort, x.count(sort), 1);
            due("second of " + sort, Teller.tell(x, sort, -1, ""), 1);
            due("two of " + sort, x.count(sort), 2);
        }
        for (int sort : new int[] {-2, -1, 4, 5, Integer.MIN_VALUE, Integer.MAX_VALUE}) {
            due("count of sort " + sort, x.count(sort), -2);
        }
    }

    private static void image() {
        GooseBorder x = new GooseBorder();
        for (int k : new int[] {-2, -1, 3, 4, Integer.MIN_VALUE, Integer.MAX_VALUE}) {
            due("image " + k, x.image(k), false);
        }
        for (int k = 0; k < 3; k++) {
            due("cap", Teller.tell(x, 0, k == 0 ? -1 : 0, "cap " + k + ";"), 0);
            due("image " + k, x.image(k), true);
        }
        due("cap as told last", x.border(0, 2), 2);
        for (int k = 0; k < 3; k++) {
            due("again " + k, x.again(k), true);
            due("cap of image " + k, x.border(0, 2), k);
        }
        due("image 0 anew", x.image(0), true);
        due("again 1", x.again(1), true);
        due("again 0", x.again(0), true);
        due("cap of the later image 0", x.border(0, 2), 2);
    }

    private static void again() {
        GooseBorder x = Teller.told("cap 1;", "thaw;", "odd 1;", "left 0 1;");
        due("a fault", Teller.tell(x, 0, -1, "cap 9; x"), NONE);
        Teller.feed(x, Teller.bytes("frost;"));
        due("image 2", x.image(2), true);
        due("the tape goes on", x.text(1, 0), 0);
        due("no fault", x.fault(0), 0);
        for (int sort = 0; sort < 4; sort++) {
            due("another", Teller.tell(x, sort, -1, ""), 1);
            due("empty", Teller.tell(x, sort, 0, ""), 0);
        }
        due("image 0", x.image(0), true);
        due("again 1", x.again(1), false);
        for (int times = 0; times < 2; times++) {
            due("again 2", x.again(2), true);
            due("fault again", x.fault(0), 1);
            due("place again", x.fault(1), 7);
            for (int sort = 0; sort < 4; sort++) {
                due("count again", x.count(sort), 1);
            }
            due("cap again", x.border(0, 2), 1);
            due("deed again", x.deed(0, 0, 0), 7);
            due("term again", x.term(0, 0, 1), 1);
            due("seen again", x.seen(0, 0, 1), 1);
            due("tape again", x.end(6), 6);
            due("tape again", x.text(1, -1), 1);
            due("frost", x.deed(1, 0, 0), 6);
            due("again 0", x.again(0), true);
            due("count of image 0", x.count(0), 2);
            due("no deeds", x.deed(0, -1, 0), 0);
        }
        due("image 0 anew", x.image(0), true);
        due("again -1", x.again(-1), false);
        due("again 3", x.again(3), false);
    }
}
