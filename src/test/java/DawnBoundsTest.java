import java.util.ArrayList;
import java.util.List;

/** The bounds of dawns, of who it may have been, and of nights drawn by a seed, sentence by sentence. */
public final class DawnBoundsTest {
    private static final Sentences S = new Sentences();
    private static final int NONE = GooseBorder.NONE;
    private static final String GOOSE = "goose 1 0 0 0 0;";

    public static void main(String[] args) {
        asSeen();
        byOthersNobody();
        waysOfAll();
        seenWhereThereIsNoPath();
        fewestAndMost();
        sureOnes();
        byWhichPaths();
        noWay();
        toes();
        fewerLeft();
        notSeenNothingLeft();
        whoTallies();
        whoFirst();
        whoMarches();
        whoWithRain();
        whoNone();
        drawnPaths();
        drawnRain();
        drawnChildren();
        drawnWrapsAround();
        drawnWithoutSign();
        drawnNights();
        drawnWhats();
        nearest();
        nearLeastNumber();
        nearNone();
        S.finish();
    }

    private static GooseBorder at(String border, String dawn) {
        return Teller.told(border, null, null, dawn);
    }

    private static GooseBorder with(String border, String night) {
        return Teller.told(border, night, null, null);
    }

    private static void asSeen() {
        S.says("Terms 4", "LEFT: MARKS of all who go by a PATH that is SEEN, together, are as SEEN");
        int[] ways = {1, 1, 1, 1, 1, 1, 1, 1, 0};
        for (int seen = 0; seen < ways.length; seen++) {
            GooseBorder x = at("path 1 1 0;goose 1 0 0 0 0;goose 2 0 0 0 0;goose 4 0 0 0 0;", "left 0 " + seen + ";");
            S.due("seen " + seen, x.fits(0, 0), ways[seen]);
        }
        GooseBorder most = at("path 12 1 0;goose 4 4 0 1 0;goose 4 4 0 1 0;goose 4 4 0 1 0;goose 4 4 0 1 0;goose 4 4 0 1 0;"
            + "goose 1 0 0 0 0;goose 1 0 0 0 0;goose 1 0 0 0 0;", "left 0 972;");
        /* 192 each of five, 12 each of three */
        S.due("972", most.fits(0, 0), 3);
        for (int seen : new int[] {971, 973, 999, 998}) {
            Teller.tell(most, 3, 0, "left 0 " + seen + ";");
            S.due("seen " + seen, most.fits(0, 0), 0);
        }
    }

    private static void byOthersNobody() {
        S.says("Terms 4", "by others nobody goes");
        String border = "path 1 1 0;path 1 1 0;" + GOOSE + GOOSE;
        S.due("none seen: all stay", at(border, "").fits(0, 0), 1);
        S.due("none seen: nobody", at(border, "").told(0, 0, 1), 0);
        S.due("one seen", at(border, "left 0 1;").fits(0, 0), 2);
        S.due("one seen, by", at(border, "left 0 1;").told(0, 0, 10), 1);
        S.due("both seen, nothing by the other", at(border, "left 0 1;left 1 0;").fits(0, 0), 2);
        S.due("both seen", at(border, "left 0 1;left 1 1;").fits(0, 0), 2);
        S.due("without toes, one seen", at("path 1 1 0;path 1 1 0;goose 0 0 0 0 0;", "left 1 0;").fits(0, 0), 2);
        S.due("without toes, both seen", at("path 1 1 0;path 1 1 0;goose 0 0 0 0 0;", "left 1 0;left 0 0;").fits(0, 0), 3);
    }

    private static void waysOfAll() {
        S.says("Promise 22", "FITS: in how many ways.");
        for (int geese : new int[] {0, 1, 7, 8}) {
            for (int paths = 0; paths <= 5; paths++) {
                StringBuilder dawn = new StringBuilder();
                for (int p = 0; p < paths; p++) {
                    dawn.append("left ").append(p).append(" 0;");
                }
                GooseBorder x = at("path 1 1 0;".repeat(paths) + "goose 0 0 0 0 9;".repeat(geese), dawn.toString());
                long want = 1;
                for (int g = 0; g < geese; g++) {
                    want *= paths + 1;
                }
                S.due(geese + " geese, " + paths + " paths", x.fits(0, 0), want);
            }
        }
        S.due("no paths, no geese", at("", "").fits(0, 0), 1);
        GooseBorder x = at("", "");
        int[][] wrong = {{-1, 0}, {1, 0}, {0, -1}, {0, 1}, {1, 1}};
        for (int[] w : wrong) {
            S.due("none such", x.fits(w[0], w[1]), NONE);
        }
    }

    private static void seenWhereThereIsNoPath() {
        S.says("Terms 4, where there is no such PATH", "together, are as SEEN");
        for (int path = 0; path < 5; path++) {
            S.due("0 on path " + path, at("path 1 1 0;path 1 1 0;", "left " + path + " 0;").fits(0, 0), 1);
            S.due("1 on path " + path, at("path 1 1 0;path 1 1 0;", "left " + path + " 1;").fits(0, 0), 0);
        }
        S.due("nobody goes by it", at("path 1 1 0;goose 0 0 0 0 0;", "left 1 0;").told(0, 0, 10), 0);
        S.due("but by the other", at("path 1 1 0;goose 0 0 0 0 0;", "left 1 0;left 0 0;").told(0, 0, 10), 1);
    }

    private static void fewestAndMost() {
        S.says("Terms 4", "FEWEST, MOST: GEESE that went at all");
        String border = "path 1 1 0;goose 2 0 0 0 0;" + GOOSE.repeat(4) + "goose 0 0 0 0 0;goose 4 0 0 0 0;";
        int[][] wants = {{0, 0, 1}, {1, 1, 2}, {2, 1, 3}, {3, 2, 4}, {4, 1, 5}, {9, 5, 6}, {10, 6, 7}, {11, -2, -2}};
        for (int[] want : wants) {
            GooseBorder x = at(border, "left 0 " + want[0] + ";");
            S.due("fewest of " + want[0], x.told(0, 0, 0), want[1]);
            S.due("most of " + want[0], x.told(0, 0, 1), want[2]);
        }
        GooseBorder all = at("path 1 1 0;" + GOOSE.repeat(8), "left 0 8;");
        S.due("all eight", all.told(0, 0, 0), 8);
        S.due("all eight", all.told(0, 0, 1), 8);
        S.due("no geese", at("path 1 1 0;", "left 0 0;").told(0, 0, 0), 0);
        S.due("no geese", at("path 1 1 0;", "left 0 0;").told(0, 0, 1), 0);
    }

    private static void sureOnes() {
        S.says("Terms 4", "SURE: GEESE (bits) that went in all ways");
        String border = "path 1 1 0;goose 2 0 0 0 0;goose 1 0 0 0 0;goose 4 0 0 0 0;goose 1 0 0 0 0;";
        /* 4 may be the third alone, or all others */
        int[] wants = {0, 0, 0, 1, 0, 4, 4, 5, 15};
        for (int seen = 0; seen < wants.length; seen++) {
            S.due("sure by " + seen, at(border, "left 0 " + seen + ";").told(0, 0, 2), wants[seen]);
        }
        S.due("sure by one too many", at(border, "left 0 9;").told(0, 0, 2), -2);
        S.due("all eight", at("path 1 1 0;" + GOOSE.repeat(8), "left 0 8;").told(0, 0, 2), 255);
        S.due("none of eight", at("path 1 1 0;" + GOOSE.repeat(8), "left 0 7;").told(0, 0, 2), 0);
        S.due("no geese", at("path 1 1 0;", "left 0 0;").told(0, 0, 2), 0);
    }

    private static void byWhichPaths() {
        S.says("Terms 4", "BY: PATHS (bits) by which one went in any");
        String border = "path 1 1 0;path 2 1 0;path 3 1 0;path 4 1 0;path 5 1 0;goose 1 0 0 0 0;goose 1 1 0 0 0;";
        GooseBorder x = at(border, "left 4 5;left 1 4;");
        S.due("goose 0", x.told(0, 0, 10), 16);
        S.due("goose 1", x.told(0, 0, 11), 2);
        S.due("goose 2", x.told(0, 0, 12), -2);
        GooseBorder any = at("path 1 1 0;".repeat(5) + GOOSE.repeat(8), "left 0 1;left 1 2;left 2 0;left 3 1;left 4 3;");
        for (int g = 0; g < 8; g++) {
            S.due("any, goose " + g, any.told(0, 0, 10 + g), 27);
        }
        S.due("one behind the last", any.told(0, 0, 18), -2);
        S.due("who stays in all ways", at("path 1 1 0;goose 2 0 0 0 0;" + GOOSE, "left 0 1;").told(0, 0, 10), 0);
    }

    private static void noWay() {
        S.says("Promise 23", "-2: no way FITS (but TOE)");
        GooseBorder x = at("path 1 1 0;path 1 1 0;goose 2 0 0 0 0;", "left 0 2;left 1 2;");
        S.due("no way", x.fits(0, 0), 0);
        for (int what : new int[] {0, 1, 2, 10}) {
            S.due("told " + what, x.told(0, 0, what), -2);
        }
        S.due("but toe", x.told(0, 0, 3), 0);
        GooseBorder one = at("path 1 1 0;path 1 1 0;goose 2 0 0 0 0;", "left 0 2;left 1 0;");
        S.due("one way", one.fits(0, 0), 1);
        S.due("told 0", one.told(0, 0, 0), 1);
        S.due("told 10", one.told(0, 0, 10), 1);
    }

    private static void toes() {
        S.says("Terms 5", "TOE of a DAWN: the GOOSE whose going would fit a PATH that is SEEN alone; of several the least");
        String border = "path 2 1 0;path 3 1 0;goose 2 0 0 0 0;goose 1 0 0 0 0;goose 1 0 0 0 0;";
        int[] wants = {NONE, NONE, 1, NONE, 0, NONE};
        for (int seen = 0; seen < wants.length; seen++) {
            S.due("toe by " + seen, at(border, "left 0 " + seen + ";").told(0, 0, 3), wants[seen]);
        }
        S.due("by either", at(border, "left 0 2;left 1 6;").told(0, 0, 3), 0);
        S.due("by either", at(border, "left 1 6;left 0 2;").told(0, 0, 3), 0);
        S.due("by the second alone", at(border, "left 0 3;left 1 3;").told(0, 0, 3), 1);
        S.due("none seen", at(border, "").told(0, 0, 3), NONE);
        S.due("no geese", at("path 1 1 0;", "left 0 0;").told(0, 0, 3), NONE);
        S.due("without toes", at("path 1 1 0;" + GOOSE + "goose 0 0 0 0 0;", "left 0 0;").told(0, 0, 3), 1);
        S.due("a path that is not there", at("path 1 1 0;goose 0 0 0 0 0;", "left 1 0;").told(0, 0, 3), NONE);
        S.due("the last of eight", at("path 1 1 0;" + GOOSE.repeat(7) + "goose 4 0 0 0 0;", "left 0 4;").told(0, 0, 3), 7);
    }

    private static void fewerLeft() {
        S.says("Terms 4", "SHORT: ... PATHS (bits) of which fewer MARKS are LEFT than their TALLY at its end");
        String border = "path 5 1 9;path 7 1 9;" + GOOSE + GOOSE + "goose 0 0 2 0 0;";
        for (int left = 4; left <= 6; left++) {
            for (int other = 6; other <= 8; other++) {
                GooseBorder x = Teller.told(border, "march 0 0;march 1 1;", null, "left 1 " + other + ";left 0 " + left + ";");
                S.due(left + " and " + other, x.lacks(0, 0, 0), (left < 5 ? 1 : 0) | (other < 7 ? 2 : 0));
            }
        }
        GooseBorder none = Teller.told(border, "", null, "left 0 0;left 1 0;");
        S.due("no tally, nothing left", none.lacks(0, 0, 0), 0);
        GooseBorder washed = Teller.told(border, "march 0 0;rain 2;", null, "left 0 4;");
        S.due("as rain has left it", washed.lacks(0, 0, 0), 0);
        S.due("less than rain has left", lacksBy(washed, "left 0 3;"), 1);
        GooseBorder exports = Teller.told(border, "march 0 0;back 1 0;", null, "left 0 0;");
        S.due("a tally of 0", exports.lacks(0, 0, 0), 0);
        GooseBorder stopped = Teller.told(border, "march 0 0;fox 1;march 1 1;", null, "left 0 5;left 1 0;");
        S.due("the end is STOP", stopped.lacks(0, 0, 0), 0);
        int[][] wrong = {{-1, 0, 0}, {1, 0, 0}, {0, -1, 0}, {0, 1, 0}, {0, 0, -1}, {0, 0, 1}};
        for (int[] w : wrong) {
            S.due("none such", stopped.lacks(w[0], w[1], w[2]), NONE);
        }
    }

    private static int lacksBy(GooseBorder x, String dawn) {
        Teller.tell(x, 3, 0, dawn);
        return x.lacks(0, 0, 0);
    }

    private static void notSeenNothingLeft() {
        S.says("Terms 4, of a PATH that is not SEEN", "by others nobody goes");
        String five = "path 1 1 0;".repeat(5) + GOOSE.repeat(5);
        GooseBorder x = Teller.told(five, "march 0 0;march 1 1;march 2 2;march 3 3;march 4 4;", null, "");
        S.due("none seen", x.lacks(0, 0, 0), 31);
        S.due("two seen", lacksBy(x, "left 4 1;left 2 9;"), 11);
        GooseBorder none = Teller.told(five, "", null, "");
        S.due("no tallies", none.lacks(0, 0, 0), 0);
        S.due("a path that is not there", lacksBy(Teller.told("path 1 1 0;", "", null, ""), "left 4 0;"), 0);
    }

    private static void whoTallies() {
        S.says("Terms 4", "without whose MARKS its TALLY at the end were this");
        GooseBorder x = with("path 1 1 0;path 1 1 0;goose 1 0 0 0 0;goose 2 0 0 0 0;goose 4 0 0 0 0;", "march 0 0;march 1 0;march 2 0;");
        int[] wants = {NONE, NONE, NONE, 2, NONE, 1, 0, NONE, NONE};
        for (int marks = 0; marks < wants.length; marks++) {
            S.due("who by " + marks, x.who(0, 0, 0, marks), wants[marks]);
            S.due("who by " + marks + " on the other", x.who(0, 0, 1, marks), NONE);
        }
        for (int marks : new int[] {Integer.MIN_VALUE, -2, -1, 9999, Integer.MAX_VALUE}) {
            S.due("who by " + marks, x.who(0, 0, 0, marks), NONE);
        }
        GooseBorder exports = with("path 1 1 0;goose 2 0 0 0 0;goose 3 0 0 0 0;goose 1 0 0 0 0;", "march 0 0;back 1 0;march 2 0;");
        S.due("0 at least", exports.who(0, 0, 0, 0), 0);
        S.due("never below", exports.who(0, 0, 0, -1), NONE);
    }

    private static void whoFirst() {
        S.says("Terms 4", "the DEED, a march by that PATH ... of several the first");
        GooseBorder x = with("path 1 1 0;path 1 1 0;" + GOOSE.repeat(4), "march 3 1;march 2 0;march 1 0;march 0 0;");
        S.due("the first of three", x.who(0, 0, 0, 2), 1);
        S.due("of the other path", x.who(0, 0, 1, 0), 0);
        GooseBorder same = with("path 1 1 0;goose 0 0 1 0 0;", "march 0 0;home 0 0;march 0 0;");
        S.due("the second march leaves nothing", same.who(0, 0, 0, 0), 0);
        GooseBorder free = with("path 1 1 0;goose 0 0 0 0 0;" + GOOSE, "march 1 0;march 0 0;");
        S.due("one who left nothing", free.who(0, 0, 0, 1), 1);
        GooseBorder last = with("path 1 1 0;goose 2 0 0 0 0;" + GOOSE, "rain 0;".repeat(22) + "march 0 0;march 1 0;");
        S.due("the 24th deed", last.who(0, 0, 0, 2), 23);
    }

    private static void whoMarches() {
        S.says("Terms 4", "a march by that PATH");
        String border = "path 1 1 0;goose 4 0 0 0 0;goose 3 0 0 0 0;";
        S.due("march", with(border, "march 0 0;").who(0, 0, 0, 0), 0);
        S.due("carry", with(border, "carry 0 1 0;").who(0, 0, 0, 0), NONE);
        S.due("back", with(border, "back 0 0;").who(0, 0, 0, 0), NONE);
        S.due("home", with(border, "carry 1 0 0;home 0 0;").who(0, 0, 0, 0), NONE);
        S.due("behind STOP", with(border, "fox 0;march 0 0;").who(0, 0, 0, 0), NONE);
        S.due("ahead of STOP", with(border, "march 0 0;fox 0;fox 0;march 1 0;").who(0, 0, 0, 0), 0);
    }

    private static void whoWithRain() {
        S.says("Terms 4", "(all else as it came; rains cut what is there)");
        /* 10 and 8: 18 less 1 is 17; of 8 alone rain takes 0 */
        GooseBorder x = with("path 1 1 0;goose 4 1 0 1 0;goose 4 4 0 0 0;goose 1 0 0 0 0;", "march 0 0;carry 1 2 0;rain 1;");
        S.due("tally", x.path(0, 0, 3, 0, 2), 17);
        S.due("without 10 of them rain takes none of 8", x.who(0, 0, 0, 8), 0);
        S.due("not 17 less what the first left", x.who(0, 0, 0, 7), NONE);
        GooseBorder two = with("path 1 1 0;goose 4 4 0 0 0;goose 2 0 0 0 0;", "march 0 0;rain 1;march 1 0;rain 1;");
        S.due("tally of both", two.path(0, 0, 4, 0, 2), 9);
        S.due("without the second", two.who(0, 0, 0, 8), 2);
        S.due("without the first", two.who(0, 0, 0, 2), 0);
        S.due("boots wear as they did", with("path 1 1 0;goose 4 4 1 0 0;", "march 0 0;home 0 0;march 0 0;rain 0;").who(0, 0, 0, 0), 0);
    }

    private static void whoNone() {
        S.says("Promise 25", "WHO. NONE: none, or there is none such (of any).");
        GooseBorder x = with("path 1 1 0;path 1 1 0;" + GOOSE, "march 0 1;");
        S.due("who", x.who(0, 0, 1, 0), 0);
        int[][] wrong = {{-1, 0, 1}, {1, 0, 1}, {0, -1, 1}, {0, 1, 1}, {0, 0, -1}, {0, 0, 2}, {0, 0, 0}};
        for (int[] w : wrong) {
            S.due("none such", x.who(w[0], w[1], w[2], 0), NONE);
        }
        S.due("no deeds", with("path 1 1 0;", "").who(0, 0, 0, 0), NONE);
    }

    /** The numbers that a seed draws, of 32 bits and without sign, by longer numbers. */
    private static List<Integer> draws(int seed, int... bounds) {
        long x = seed & 0xffffffffL;
        List<Integer> drawn = new ArrayList<>();
        for (int bound : bounds) {
            x = (x * 1103515245L + 12345L) % 4294967296L;
            drawn.add((int) (x / 65536 % bound));
        }
        return drawn;
    }

    private static void drawnPaths() {
        S.says("Terms 4", "each GOOSE, by numbers, a number below PATHS: its PATH");
        for (int paths = 1; paths <= 5; paths++) {
            StringBuilder border = new StringBuilder();
            for (int p = 0; p < paths; p++) {
                border.append("path ").append(p + 1).append(" 1 0;");
            }
            GooseBorder x = with(border + "goose 1 0 0 0 0;goose 1 1 0 0 0;", "");
            boolean[] gone = new boolean[paths];
            for (int seed = 0; seed < 60; seed++) {
                List<Integer> draws = draws(seed, paths, paths);
                S.due("trail of 0 by " + seed, x.drawn(0, seed, 1, 20), draws.get(0) + 1);
                S.due("trail of 1 by " + seed, x.drawn(0, seed, 1, 21), 2 * (draws.get(1) + 1));
                gone[draws.get(0)] = true;
            }
            for (int p = 0; p < paths; p++) {
                S.due("path " + p + " of " + paths + " is drawn", gone[p], true);
            }
        }
    }

    private static void drawnRain() {
        S.says("Terms 4", "then a number below 11: rain, in tenths");
        GooseBorder x = with("path 9 3 5;" + GOOSE, "");
        boolean[] rained = new boolean[11];
        for (int seed = -100; seed < 100; seed++) {
            int tenths = draws(seed, 1, 11).get(1);
            int tally = 9 - 9 * tenths / 10;
            rained[tenths] = true;
            S.due("tally in rain of " + tenths, x.drawn(0, seed, 1, 10), tally);
            S.due("all tallies in rain of " + tenths, x.drawn(0, seed, 1, 0), tally);
            S.due("pay in rain of " + tenths, x.drawn(0, seed, 1, 1), 3 * (tally + tally * 5 / 10));
            S.due("trail in rain of " + tenths, x.drawn(0, seed, 1, 20), 9);
        }
        for (int tenths = 0; tenths <= 10; tenths++) {
            S.due(tenths + " tenths are drawn", rained[tenths], true);
        }
    }

    private static void drawnChildren() {
        S.says("Terms 4", "for each PATH a number below 10: below its PAD a child has come ... (as many PATHS have a child)");
        for (int pad = 0; pad <= 9; pad++) {
            GooseBorder x = with("path 1 1 " + pad + ";", "");
            GooseBorder five = with(("path 1 1 " + pad + ";").repeat(5), "");
            for (int seed = 0; seed < 60; seed++) {
                S.due("pad " + pad + " by " + seed, x.drawn(0, seed, 1, 2), draws(seed, 11, 10).get(1) < pad ? 1 : 0);
                List<Integer> draws = draws(seed, 11, 10, 10, 10, 10, 10);
                int children = 0;
                for (int p = 1; p <= 5; p++) {
                    children += draws.get(p) < pad ? 1 : 0;
                }
                S.due("five of pad " + pad + " by " + seed, five.drawn(0, seed, 1, 2), children);
            }
        }
    }

    private static void drawnWrapsAround() {
        S.says("Terms 4", "x becomes x * 1103515245 + 12345 (of 32 bits)");
        GooseBorder x = with("path 1 1 5;path 2 1 5;path 3 1 5;" + GOOSE, "");
        int[] seeds = {Integer.MIN_VALUE, Integer.MIN_VALUE + 1, -65537, -65536, -65535, -2, -1, 0, 1, 2, 65535, 65536, 65537,
            Integer.MAX_VALUE - 1, Integer.MAX_VALUE};
        for (int seed : seeds) {
            List<Integer> draws = draws(seed, 3, 11, 10, 10, 10, 3);
            S.due("trail by " + seed, x.drawn(0, seed, 1, 20), draws.get(0) + 1);
            S.due("trail of two nights by " + seed, x.drawn(0, seed, 2, 20), draws.get(0) + draws.get(5) + 2);
        }
    }

    private static void drawnWithoutSign() {
        S.says("Terms 4", "it is x shifted right by 16 without sign, remainder by n");
        GooseBorder x = with("path 1 1 0;path 2 1 0;path 3 1 0;path 4 1 0;path 5 1 0;" + GOOSE, "");
        int high = 0;
        for (int seed = 0; seed < 200; seed++) {
            long next = (seed * 1103515245L + 12345L) % 4294967296L;
            high += next >= 2147483648L ? 1 : 0;
            S.due("trail by " + seed, x.drawn(0, seed, 1, 20), (int) (next / 65536 % 5) + 1);
        }
        S.due("some have the highest bit", high > 50 && high < 150, true);
    }

    private static void drawnNights() {
        S.says("Promise 26", "k 1 .. 20 ... another k");
        GooseBorder x = with("path 3 1 0;goose 4 4 1 0 0;", "");
        for (int k : new int[] {1, 2, 19, 20}) {
            // boots as new each night: 2 and 8 and 8
            S.due(k + " nights", x.drawn(0, 7, k, 20), 18 * k);
        }
        for (int k : new int[] {Integer.MIN_VALUE, -2, -1, 0, 21, 22, Integer.MAX_VALUE}) {
            S.due(k + " nights", x.drawn(0, 7, k, 20), NONE);
        }
        int sum = 0;
        for (int k = 1; k <= 20; k++) {
            int tenths = draws(7, drawnBounds(k)).get(3 * k - 2);
            sum += 18 - 18 * tenths / 10;
            S.due("tallies of " + k + " nights", x.drawn(0, 7, k, 0), sum);
        }
    }

    /** One path and one goose: a night draws a path, the rain, a child. */
    private static int[] drawnBounds(int nights) {
        int[] bounds = new int[3 * nights];
        for (int night = 0; night < nights; night++) {
            bounds[3 * night] = 1;
            bounds[3 * night + 1] = 11;
            bounds[3 * night + 2] = 10;
        }
        return bounds;
    }

    private static void drawnWhats() {
        S.says("Promise 26", "NONE: there are no PATHS, there is none such, another k, or for another what.");
        for (int paths = 0; paths <= 5; paths++) {
            for (int geese : new int[] {0, 1, 7, 8}) {
                GooseBorder x = with("path 1 1 0;".repeat(paths) + GOOSE.repeat(geese), "");
                for (int what = -25; what <= 60; what++) {
                    boolean told = what >= 0 && what <= 2 || what >= 10 && what < 10 + paths || what >= 20 && what < 20 + geese;
                    S.due("drawn " + what, x.drawn(0, 1, 1, what) != NONE, told && paths > 0);
                }
                S.due("border 1", x.drawn(1, 1, 1, 0), NONE);
                S.due("border -1", x.drawn(-1, 1, 1, 0), NONE);
            }
        }
    }

    private static void nearest() {
        S.says("Terms 6", "leave as many MARKS as near as may be to what is SEEN");
        String border = "path 1 1 0;goose 4 4 0 0 0;goose 4 0 0 0 0;";
        int[] wants = {0, 0, 0, 2, 2, 2, 1, 1, 1, 1, 1, 3, 3, 3};
        for (int seen = 0; seen < wants.length; seen++) {
            S.due("near " + seen, at(border, "left 0 " + seen + ";").near(0, 0, 0), wants[seen]);
        }
        S.due("near 999", at(border, "left 0 999;").near(0, 0, 0), 3);
        S.due("of more than can be seen", at("path 20 1 0;" + "goose 4 4 0 1 0;".repeat(8), "left 0 999;").near(0, 0, 0), 7);
    }

    private static void nearLeastNumber() {
        S.says("Terms 6", "NEAR ... of several the least number (bits)");
        String alike = "path 1 1 0;" + GOOSE.repeat(8);
        for (int seen = 0; seen <= 9; seen++) {
            int want = (1 << Math.min(8, seen)) - 1;
            S.due("near " + seen, at(alike, "left 0 " + seen + ";").near(0, 0, 0), want);
        }
        S.due("as near below as above", at("path 1 1 0;goose 3 0 0 0 0;goose 1 0 0 0 0;", "left 0 2;").near(0, 0, 0), 1);
        S.due("as near below as above", at("path 1 1 0;goose 1 0 0 0 0;goose 3 0 0 0 0;", "left 0 2;").near(0, 0, 0), 1);
        S.due("the empty set is the least", at("path 1 1 0;goose 0 0 0 0 0;", "left 0 0;").near(0, 0, 0), 0);
        S.due("no geese", at("path 1 1 0;", "left 0 5;").near(0, 0, 0), 0);
    }

    private static void nearNone() {
        S.says("Promise 34", "NONE: that PATH is not there, or there is none such (of any).");
        for (int paths = 0; paths <= 5; paths++) {
            GooseBorder x = at("path 1 1 0;".repeat(paths) + GOOSE, "left 4 1;left 3 1;left 2 1;left 1 1;left 0 1;");
            for (int k = -2; k <= 6; k++) {
                boolean there = k >= 0 && k < 5 && 4 - k < paths;
                S.due("near " + k + " of " + paths, x.near(0, 0, k), there ? 1 : NONE);
            }
            S.due("no such border", x.near(1, 0, 4), NONE);
            S.due("no such border", x.near(-1, 0, 4), NONE);
            S.due("no such dawn", x.near(0, 1, 4), NONE);
            S.due("no such dawn", x.near(0, -1, 4), NONE);
        }
        S.due("none seen", at("path 1 1 0;" + GOOSE, "").near(0, 0, 0), NONE);
        S.due("one seen", at("path 1 1 0;" + GOOSE, "left 0 1;").near(0, 0, 0), 1);
        S.due("one seen", at("path 1 1 0;" + GOOSE, "left 0 1;").near(0, 0, 1), NONE);
    }
}
