/** The bounds of what sets of geese, couples of paths and changed deeds can do, sentence by sentence. */
public final class FlockBoundsTest {
    private static final Sentences S = new Sentences();
    private static final int NONE = GooseBorder.NONE;
    private static final String GOOSE = "goose 1 0 0 0 0;";

    public static void main(String[] args) {
        alike();
        alikeNone();
        spans();
        spanNumbers();
        splits();
        splitLeastNumber();
        splitNone();
        twoBootsWear();
        twoFirstByRows();
        twoNone();
        backsNotAboveTheLimit();
        backsLeastNumber();
        backsLimits();
        closes();
        closeLeast();
        closeNone();
        shiftMore();
        shiftMost();
        shiftAheadOfStop();
        shiftStopNoLess();
        shiftNone();
        thriftPaidSome();
        thriftLeastNumber();
        thriftNone();
        S.finish();
    }

    private static GooseBorder with(String border) {
        return Teller.told(border, null, null, null);
    }

    private static GooseBorder with(String border, String night) {
        return Teller.told(border, night, null, null);
    }

    private static void alike() {
        S.says("Terms 5", "ALIKE of two GEESE: on which PATHS (bits) they leave as many MARKS");
        for (int toes = 0; toes <= 4; toes++) {
            GooseBorder x = with("path 1 1 0;path 20 1 0;goose 2 0 0 0 0;goose 0 " + toes + " 0 0 0;");
            S.due("2 toes and " + toes, x.alike(0, 0, 1), toes == 2 ? 3 : 0);
        }
        for (int boots = 0; boots <= 6; boots++) {
            GooseBorder x = with("path 2 1 0;path 3 1 0;path 4 1 0;goose 4 4 3 0 0;goose 4 4 " + boots + " 0 0;");
            int want = boots < 2 ? 0 : boots == 2 ? 1 : boots == 3 ? 7 : 3;
            S.due("boots for 3 and " + boots, x.alike(0, 0, 1), want);
            S.due("boots for " + boots + " and 3", x.alike(0, 1, 0), want);
        }
        S.due("no paths", with(GOOSE + GOOSE).alike(0, 0, 1), 0);
        S.due("all five", with("path 1 1 0;".repeat(5) + GOOSE.repeat(8)).alike(0, 0, 7), 31);
    }

    private static void alikeNone() {
        S.says("Promise 27", "NONE: both are one, or there is none such (of any).");
        for (int geese = 0; geese <= 8; geese++) {
            GooseBorder x = with("path 1 1 0;" + GOOSE.repeat(geese));
            for (int a = -1; a <= 9; a++) {
                for (int b = -1; b <= 9; b++) {
                    boolean there = a >= 0 && b >= 0 && a < geese && b < geese && a != b;
                    S.due(a + " and " + b + " of " + geese, x.alike(0, a, b), there ? 1 : NONE);
                }
            }
            S.due("no such border", x.alike(1, 0, 1), NONE);
            S.due("no such border", x.alike(-1, 0, 1), NONE);
        }
    }

    private static void spans() {
        S.says("Terms 5", "SPAN of a PATH: the fewest, the most MARKS that any set of so many GEESE leaves");
        GooseBorder x = with("path 2 1 0;goose 4 0 0 0 0;goose 1 0 0 0 0;goose 0 0 0 0 0;goose 2 0 0 0 0;");
        int[][] wants = {{0, 0}, {0, 8}, {2, 12}, {6, 14}, {14, 14}};
        for (int n = 0; n < wants.length; n++) {
            S.due("fewest of " + n, x.span(0, 0, n, false), wants[n][0]);
            S.due("most of " + n, x.span(0, 0, n, true), wants[n][1]);
        }
        GooseBorder most = with("path 20 1 0;" + "goose 4 4 0 1 0;".repeat(8));
        S.due("the most there can be", most.span(0, 0, 8, true), 2560);
    }

    private static void spanNumbers() {
        S.says("Promise 28", "SPAN of n GEESE, 0 .. all ... NONE: there is none such (of either), or not so many.");
        for (int geese = 0; geese <= 8; geese++) {
            GooseBorder x = with("path 1 1 0;path 2 1 0;" + GOOSE.repeat(geese));
            for (int n : new int[] {Integer.MIN_VALUE, -2, -1, 0, 1, geese - 1, geese, geese + 1, geese + 2, 9, Integer.MAX_VALUE}) {
                boolean there = n >= 0 && n <= geese;
                S.due(n + " of " + geese, x.span(0, 0, n, false), there ? n : NONE);
                S.due("most, " + n + " of " + geese, x.span(0, 1, n, true), there ? 2 * n : NONE);
            }
            for (int path : new int[] {-1, 2}) {
                S.due("no such path", x.span(0, path, 0, true), NONE);
            }
            for (int border : new int[] {-1, 1}) {
                S.due("no such border", x.span(border, 0, 0, false), NONE);
            }
        }
    }

    private static void split(String border, int set, int apart) {
        GooseBorder x = with(border);
        S.due("set", x.split(0, 0, 1, false), set);
        S.due("apart", x.split(0, 0, 1, true), apart);
    }

    private static void splits() {
        S.says("Terms 5", "all GEESE go by one of both, with the least difference of MARKS");
        String paths = "path 1 1 0;path 1 1 0;";
        for (int toes = 0; toes <= 4; toes++) {
            split(paths + "goose 2 0 0 0 0;goose " + toes + " 0 0 0 0;", toes == 0 ? 0 : 1, Math.abs(2 - toes));
        }
        split(paths, 0, 0);
        split(paths + "goose 4 4 0 1 0;" + GOOSE.repeat(7), 1, 9);
        /* by the first path 1 each, by the other 20 each */
        split("path 1 1 0;path 20 1 0;" + GOOSE.repeat(8), 255, 8);
        split("path 20 1 0;path 1 1 0;" + GOOSE.repeat(8), 0, 8);
        split("path 7 1 0;path 1 1 0;" + GOOSE.repeat(8), 1, 0);
    }

    private static void splitLeastNumber() {
        S.says("Terms 5", "SPLIT ... of several the least number (bits of those who go by a)");
        String paths = "path 1 1 0;path 1 1 0;";
        split(paths + GOOSE.repeat(2), 1, 0);
        split(paths + GOOSE.repeat(4), 3, 0);
        split(paths + GOOSE.repeat(8), 15, 0);
        split(paths + GOOSE, 0, 1);
        split(paths + GOOSE.repeat(3), 1, 1);
        split(paths + "goose 1 0 0 0 0;goose 2 0 0 0 0;goose 3 0 0 0 0;", 3, 0);
        split(paths + "goose 0 0 0 0 0;".repeat(8), 0, 0);
    }

    private static void splitNone() {
        S.says("Promise 30", "NONE: both are one, or there is none such (of any).");
        for (int paths = 0; paths <= 5; paths++) {
            GooseBorder x = with("path 1 1 0;".repeat(paths) + GOOSE.repeat(2));
            for (int a = -1; a <= 6; a++) {
                for (int b = -1; b <= 6; b++) {
                    boolean there = a >= 0 && b >= 0 && a < paths && b < paths && a != b;
                    S.due(a + " and " + b + " of " + paths, x.split(0, a, b, false), there ? 1 : NONE);
                    S.due("apart, " + a + " and " + b + " of " + paths, x.split(0, a, b, true), there ? 0 : NONE);
                }
            }
            S.due("no such border", x.split(1, 0, 1, false), NONE);
            S.due("no such border", x.split(-1, 0, 1, true), NONE);
        }
    }

    private static void twoBootsWear() {
        S.says("Terms 6", "BOOTS wearing through both");
        /* 3 miles, then 2: in boots 2 a mile, 8 without */
        int[] wants = {40, 34, 28, 22, 16, 10, 10, 10};
        for (int boots = 0; boots < wants.length; boots++) {
            GooseBorder x = with("path 3 1 0;goose 4 4 " + boots + " 0 0;");
            S.due("second border", Teller.tell(x, 0, NONE, "path 2 1 0;goose 0 0 0 0 0;"), 1);
            S.due("boots for " + boots, x.two(0, 0, 1, 2), wants[boots]);
        }
        GooseBorder padded = with("path 5 1 1;" + GOOSE);
        S.due("each guard pads what he sees", padded.two(0, 0, 0, 2), 10);
        GooseBorder most = with("path 20 9 9;" + "goose 4 4 0 1 0;".repeat(8));
        S.due("the most there can be", most.two(0, 7, 0, 2), 10944);
    }

    private static void twoFirstByRows() {
        S.says("Terms 6", "the couple of PATHS by which both guards together are paid most; of several the first by rows");
        String[] borders = {"path 1 1 0;path 1 1 0;", "path 1 1 0;path 2 1 0;", "path 2 1 0;path 1 1 0;", "path 1 0 0;path 1 0 0;"};
        int[][] wants = {{0, 0, 2}, {1, 1, 4}, {0, 0, 4}, {0, 0, 0}};
        for (int i = 0; i < borders.length; i++) {
            GooseBorder x = with(borders[i] + GOOSE);
            for (int what = 0; what < 3; what++) {
                S.due(borders[i] + " " + what, x.two(0, 0, 0, what), wants[i][what]);
            }
        }
        /* 2 miles, then 2: 2 and 8 in the first, 16 in the second */
        GooseBorder rows = with("path 1 1 0;path 2 1 0;goose 4 4 1 0 0;");
        Teller.tell(rows, 0, NONE, "path 2 1 0;path 1 1 0;");
        S.due("the most is by the longest", rows.two(0, 0, 1, 0), 1);
        S.due("the most is by the longest", rows.two(0, 0, 1, 1), 0);
        S.due("the most", rows.two(0, 0, 1, 2), 26);
        GooseBorder tie = with("path 1 1 0;path 2 1 0;goose 1 0 0 0 0;");
        Teller.tell(tie, 0, NONE, "path 1 0 0;path 1 0 0;");
        S.due("of tied ones", tie.two(0, 0, 1, 0), 1);
        S.due("of tied ones the first", tie.two(0, 0, 1, 1), 0);
    }

    private static void twoNone() {
        S.says("Promise 31", "NONE: a BORDER without PATHS, there is none such (of any), or for another what.");
        GooseBorder x = with("path 1 1 0;" + GOOSE.repeat(2));
        S.due("no other border", x.two(0, 0, 1, 0), NONE);
        Teller.tell(x, 0, NONE, GOOSE.repeat(3));
        for (int what = -2; what <= 5; what++) {
            boolean told = what >= 0 && what <= 2;
            S.due("first without paths " + what, x.two(1, 0, 0, what), NONE);
            S.due("second without paths " + what, x.two(0, 0, 1, what), NONE);
            S.due("both without paths " + what, x.two(1, 0, 1, what), NONE);
            S.due("with paths " + what, x.two(0, 1, 0, what) != NONE, told);
            S.due("goose 2 " + what, x.two(0, 2, 0, what), NONE);
            S.due("goose -1 " + what, x.two(0, -1, 0, what), NONE);
            S.due("border 2 " + what, x.two(2, 0, 0, what), NONE);
            S.due("border -1 " + what, x.two(-1, 0, 0, what), NONE);
            S.due("other 2 " + what, x.two(0, 0, 2, what), NONE);
            S.due("other -1 " + what, x.two(0, 0, -1, what), NONE);
        }
        Teller.tell(x, 0, 1, "path 1 1 0;");
        S.due("the goose is of the first border", x.two(0, 1, 1, 2), 2);
        S.due("the second one has none", x.two(1, 0, 0, 2), NONE);
    }

    private static void backs(String border, int[][] wants) {
        GooseBorder x = with(border);
        for (int[] want : wants) {
            S.due("backs by " + want[0], x.backs(0, 0, want[0], false), want[1]);
            S.due("how many by " + want[0], x.backs(0, 0, want[0], true), Integer.bitCount(want[1]));
        }
    }

    private static void backsNotAboveTheLimit() {
        S.says("Terms 6", "the fewest backwards by which its TALLY is not above the limit");
        backs("path 1 1 0;goose 4 1 0 0 0;goose 1 2 0 0 0;", new int[][] {{0, 1}, {1, 1}, {2, 1}, {3, 1}, {7, 1}, {8, 0}, {9, 0}});
        backs("path 1 1 0;goose 3 0 0 0 0;goose 4 0 0 0 0;goose 4 0 0 0 0;", new int[][] {{0, 3}, {2, 3}, {3, 2}, {4, 2}, {5, 1},
            {6, 1}, {10, 1}, {11, 0}, {12, 0}, {9999, 0}});
        backs("path 1 1 0;", new int[][] {{0, 0}, {1, 0}});
        backs("path 1 1 0;goose 0 0 0 0 0;", new int[][] {{0, 0}, {1, 0}});
        backs("path 1 1 0;" + GOOSE, new int[][] {{0, 1}, {1, 0}, {2, 0}});
        backs("path 20 1 0;" + "goose 4 4 0 1 0;".repeat(8), new int[][] {{0, 15}, {639, 15}, {640, 7}, {1279, 7}, {1280, 3}, {1919, 3},
            {1920, 1}, {2559, 1}, {2560, 0}, {9999, 0}});
    }

    private static void backsLeastNumber() {
        S.says("Terms 6", "BACKS ... of several the least number (bits)");
        backs("path 1 1 0;" + GOOSE.repeat(8), new int[][] {{0, 15}, {1, 15}, {2, 7}, {3, 7}, {4, 3}, {6, 1}, {7, 1}, {8, 0}});
        /* one backwards is enough, but not the first */
        backs("path 1 1 0;goose 1 0 0 0 0;goose 4 0 0 0 0;goose 4 0 0 0 0;", new int[][] {{6, 2}, {7, 1}, {1, 2}, {0, 3}});
        /* two of the first geese have a lesser number than the last alone, but are more */
        backs("path 1 1 0;goose 2 0 0 0 0;goose 2 0 0 0 0;goose 4 0 0 0 0;", new int[][] {{0, 4}, {1, 4}, {4, 1}});
    }

    private static void backsLimits() {
        S.says("Promise 32", "limit 0 .. 9999 ... NONE: there is none such (of either), or another limit.");
        GooseBorder x = with("path 1 1 0;path 2 1 0;" + GOOSE);
        for (boolean many : new boolean[] {false, true}) {
            for (int limit : new int[] {Integer.MIN_VALUE, -2, -1, 10000, 10001, Integer.MAX_VALUE}) {
                S.due("limit " + limit, x.backs(0, 0, limit, many), NONE);
            }
            for (int limit : new int[] {0, 1, 9998, 9999}) {
                S.due("limit " + limit, x.backs(0, 0, limit, many), limit == 0 ? 1 : 0);
                for (int outside : new int[] {-1, 2}) {
                    S.due("no such path", x.backs(0, outside, limit, many), NONE);
                    S.due("no such border", x.backs(outside, 0, limit, many), NONE);
                }
                S.due("no such border", x.backs(1, 0, limit, many), NONE);
            }
        }
    }

    private static void closes() {
        S.says("Terms 6", "the PATH without which (all others as they are) EVEN's difference is least");
        for (int rate = 1; rate <= 4; rate++) {
            GooseBorder x = with("path 1 " + rate + " 0;path 1 2 0;path 1 2 0;" + GOOSE.repeat(2));
            S.due("rate " + rate, x.close(0, false), 0);
            S.due("apart then", x.close(0, true), 0);
        }
        /* without 0: 2 and 4 pence a mark; without 1: 1 and 4; without 2: 1 and 2; of one mark */
        GooseBorder one = with("path 1 1 0;path 1 2 0;path 1 4 0;" + GOOSE);
        S.due("one goose", one.close(0, false), 1);
        S.due("one goose, apart", one.close(0, true), 1);
        GooseBorder last = with("path 1 2 0;path 1 2 0;path 1 9 0;" + GOOSE.repeat(2));
        S.due("the last", last.close(0, false), 2);
        S.due("the last, apart", last.close(0, true), 0);
        GooseBorder all = with("path 1 1 0;path 1 1 0;path 1 1 0;" + GOOSE.repeat(3));
        S.due("one is closed, even if all open were better", all.close(0, false), 0);
        S.due("all open", all.even(0, 0), 0);
        S.due("one closed", all.close(0, true), 1);
        GooseBorder two = with("path 1 9 0;path 1 1 0;" + GOOSE.repeat(6));
        S.due("of two: one is left, which is even", two.close(0, true), 0);
    }

    private static void closeLeast() {
        S.says("Terms 6", "CLOSE ... of several the least (one PATH alone: none)");
        for (int paths = 0; paths <= 5; paths++) {
            GooseBorder x = with("path 1 1 0;".repeat(paths) + GOOSE);
            S.due(paths + " paths", x.close(0, false), paths < 2 ? NONE : 0);
            S.due(paths + " paths, apart", x.close(0, true), paths < 2 ? NONE : paths == 2 ? 0 : 1);
        }
        GooseBorder tie = with("path 1 9 0;path 1 1 0;path 1 2 0;path 1 2 0;" + GOOSE);
        /* by 0, 1, 2 or 3 closed: the least rate left is the difference */
        S.due("of several", tie.close(0, false), 0);
        S.due("of several, apart", tie.close(0, true), 1);
    }

    private static void closeNone() {
        S.says("Promise 33", "NONE: fewer than 2 PATHS, more than 6 GEESE, or there is none such.");
        for (int geese = 0; geese <= 8; geese++) {
            for (int paths = 0; paths <= 3; paths++) {
                GooseBorder x = with("path 1 0 0;".repeat(paths) + GOOSE.repeat(geese));
                boolean told = paths >= 2 && geese <= 6;
                S.due(paths + " paths, " + geese + " geese", x.close(0, false), told ? 0 : NONE);
                S.due(paths + " paths, " + geese + " geese, apart", x.close(0, true), told ? 0 : NONE);
                S.due("border 1", x.close(1, false), NONE);
                S.due("border -1", x.close(-1, true), NONE);
            }
        }
    }

    private static void shift(String border, String night, int first, int pay) {
        GooseBorder x = with(border, night);
        S.due("shift of '" + night + "'", x.shift(0, 0, false), first);
        S.due("pay of '" + night + "'", x.shift(0, 0, true), pay);
    }

    private static final String ONE = "path 1 1 0;goose 1 0 0 0 0;goose 2 0 0 0 0;goose 4 0 0 0 0;";

    private static void shiftMore() {
        S.says("Terms 6", "all PAY at the end the most, more than it is");
        shift(ONE, "march 0 0;rain 10;", 0, 1);
        shift(ONE, "rain 10;march 0 0;", NONE, NONE);
        shift(ONE, "march 0 0;march 1 0;", NONE, NONE);
        shift(ONE, "march 0 0;rain 0;", NONE, NONE);
        shift(ONE, "march 2 0;rain 2;", NONE, NONE);
        shift(ONE, "march 2 0;rain 3;", 0, 4);
        shift("path 1 0 0;" + GOOSE, "march 0 0;rain 10;", NONE, NONE);
    }

    private static void shiftMost() {
        S.says("Terms 6", "SHIFT ... of several the first (its first one's number)");
        shift(ONE, "march 0 0;rain 10;march 1 0;rain 10;", 2, 2);
        shift(ONE, "march 1 0;rain 10;march 0 0;rain 10;", 2, 1);
        shift(ONE, "march 1 0;rain 5;march 0 0;rain 5;", 0, 2);
        /* frost and march, or march and thaw: the same pay */
        shift("path 1 1 0;goose 0 0 1 0 0;", "frost;march 0 0;thaw;", 0, 2);
        shift("path 1 1 0;goose 0 0 1 0 0;", "rain 0;frost;march 0 0;thaw;", 1, 2);
        shift(ONE, "rain 0;".repeat(22) + "march 2 0;rain 10;", 22, 4);
    }

    private static void shiftAheadOfStop() {
        S.says("Terms 6", "the two DEEDS, one right behind the other, both ahead of STOP");
        shift(ONE, "", NONE, NONE);
        shift(ONE, "march 0 0;", NONE, NONE);
        shift(ONE, "march 0 0;fox 0;fox 0;", NONE, NONE);
        shift(ONE, "march 0 0;rain 10;fox 1;", 0, 1);
        shift(ONE, "march 0 0;fox 1;rain 10;", NONE, NONE);
        /* the second march stands at STOP: changed with the first, which is paid less, it is not asked for */
        shift("path 1 1 0;path 1 9 0;goose 1 0 0 0 0;", "march 0 0;march 0 1;", NONE, NONE);
        shift("path 1 1 0;path 1 9 0;goose 1 0 0 0 0;", "rain 0;march 0 0;march 0 1;rain 0;", NONE, NONE);
        /* the fox that can't be stands at STOP: it is not changed with the march behind it */
        shift(ONE, "rain 0;fox 0;march 0 0;", NONE, NONE);
    }

    private static void shiftStopNoLess() {
        S.says("Terms 6", "which, changed, leave STOP no less");
        shift("path 1 9 0;path 1 1 0;goose 1 0 1 0 0;", "march 0 0;home 0 1;rain 10;", NONE, NONE);
        /* changed, the first two can't be: STOP 0 for 3; the next two can */
        shift("path 1 9 0;path 1 1 0;goose 1 0 0 0 0;goose 2 0 0 0 0;", "march 0 0;home 0 1;march 1 0;rain 10;", 2, 18);
        /* STOP as it was, at a later deed that can't be either way */
        shift(ONE, "march 2 0;rain 10;home 0 0;", 0, 4);
        /* changed, the fox takes another one, and a march behind STOP comes to pass */
        shift(ONE, "march 0 0;march 1 0;fox 0;recast 1 0;march 2 0;", 0, 7);
    }

    private static void shiftNone() {
        S.says("Promise 35", "SHIFT, or (pay) all PAY then. NONE: none, or there is none such (of either).");
        GooseBorder x = with(ONE, "march 0 0;rain 10;");
        int[][] wrong = {{-1, 0}, {1, 0}, {0, -1}, {0, 1}};
        for (int[] w : wrong) {
            S.due("none such", x.shift(w[0], w[1], false), NONE);
            S.due("none such, pay", x.shift(w[0], w[1], true), NONE);
        }
        S.due("the night stays as told", x.deed(0, 0, 0), 0);
        S.due("its pay, too", x.state(0, 0, 2, 7), 0);
    }

    private static void thrift(String border, int want) {
        S.due("thrift of '" + border + "'", with(border).thrift(0), want);
    }

    private static void thriftPaidSome() {
        S.says("Terms 6", "the fewest GEESE by which all PATHS are paid some, each marching by one PATH");
        for (int paths = 0; paths <= 5; paths++) {
            for (int geese = 0; geese <= 8; geese++) {
                thrift("path 1 1 0;".repeat(paths) + GOOSE.repeat(geese), geese < paths ? NONE : (1 << paths) - 1);
            }
        }
        thrift("path 1 1 0;goose 0 0 0 0 0;", NONE);
        thrift("path 1 1 0;goose 0 0 1 0 0;", 1);
        thrift("path 1 0 9;goose 4 4 0 0 0;", NONE);
        thrift("path 1 1 0;path 1 0 0;goose 4 4 0 0 0;goose 4 4 0 0 0;", NONE);
    }

    private static void thriftLeastNumber() {
        S.says("Terms 6", "THRIFT ... of several the least number (bits)");
        String none = "goose 0 0 0 0 0;";
        thrift("path 1 1 0;" + none + GOOSE + GOOSE, 2);
        thrift("path 1 1 0;" + none.repeat(7) + GOOSE, 128);
        thrift("path 1 1 0;path 1 1 0;" + GOOSE + none + GOOSE + GOOSE, 5);
        thrift("path 1 1 0;".repeat(5) + none.repeat(3) + GOOSE.repeat(5), 248);
        thrift("path 1 1 0;".repeat(5) + none.repeat(4) + GOOSE.repeat(4), NONE);
    }

    private static void thriftNone() {
        S.says("Promise 36", "THRIFT (bits). NONE: by none, or there is none such.");
        GooseBorder x = with("path 1 1 0;" + GOOSE);
        S.due("border 0", x.thrift(0), 1);
        S.due("border 1", x.thrift(1), NONE);
        S.due("border -1", x.thrift(-1), NONE);
        S.due("no paths: nobody is needed", with(GOOSE).thrift(0), 0);
        S.due("no borders", new GooseBorder().thrift(0), NONE);
    }
}
