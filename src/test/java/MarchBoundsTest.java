/** The bounds of marches, tar, limping and the guards' game, sentence by sentence. */
public final class MarchBoundsTest {
    private static final Sentences S = new Sentences();
    private static final int NONE = GooseBorder.NONE;
    private static final String GOOSE = "goose 1 0 0 0 0;";
    private static final int[] LIMITS = {Integer.MIN_VALUE, -2, -1, 10000, 10001, Integer.MAX_VALUE};

    public static void main(String[] args) {
        asToldNoDeedHavingBeen();
        evenWithManyGeese();
        evenFirstByRows();
        evenLeast();
        evenOfOneOrNoPath();
        evenWhats();
        richestWithManyGeese();
        richestFirstByRows();
        richestOfPadded();
        richestWhats();
        tarNotAboveTheLimit();
        tarOfFirstMiles();
        tarByNone();
        tarLimits();
        lames();
        bests();
        bestOrLame();
        aboveTheCap();
        capsOfNothing();
        rests();
        restNumbers();
        takeSets();
        honest();
        S.finish();
    }

    private static GooseBorder with(String border) {
        return Teller.told(border, null, null, null);
    }

    private static GooseBorder with(String border, String night) {
        return Teller.told(border, night, null, null);
    }

    private static GooseBorder by(String border, String law) {
        return Teller.told(border, null, law, null);
    }

    private static void asToldNoDeedHavingBeen() {
        S.says("Terms 3", "(Of a BORDER as told, no DEED having been.)");
        String border = "path 2 1 0;path 1 1 0;goose 3 3 1 0 0;goose 1 1 0 1 0;";
        GooseBorder before = Teller.told(border, null, "each 1;", null);
        GooseBorder after = Teller.told(border, "frost;march 0 0;fox 0;recast 1 9;", "each 1;", null);
        S.due("the night goes to its end", after.stop(0, 0), 4);
        S.due("even", after.even(0, 0), before.even(0, 0));
        S.due("even of 0", after.even(0, 10), before.even(0, 10));
        S.due("richest", after.richest(0, 0, 0), before.richest(0, 0, 0));
        S.due("tar", after.tar(0, 0, 15), before.tar(0, 0, 15));
        S.due("lame", after.lame(0, 0, -1), before.lame(0, 0, -1));
        S.due("best", after.lame(0, 0, 1), before.lame(0, 0, 1));
    }

    private static void evenWithManyGeese() {
        S.says("Terms 3", "(6 GEESE at most, or none is told.)");
        for (int geese = 0; geese <= 8; geese++) {
            GooseBorder x = with("path 1 1 0;path 1 1 0;" + GOOSE.repeat(geese));
            boolean told = geese <= 6;
            S.due("even of " + geese, x.even(0, 0), told ? geese % 2 : NONE);
            S.due("the first path of " + geese, x.even(0, 20), told ? (geese + 1) / 2 : NONE);
            S.due("the last goose of " + geese, x.even(0, 9 + geese), geese == 0 || !told ? NONE : geese == 1 ? 0 : 1);
            S.due("the first goose of " + geese, x.even(0, 10), geese == 0 || !told ? NONE : 0);
            S.due("one behind the last of " + geese, x.even(0, 10 + geese), NONE);
        }
    }

    private static void evenFirstByRows() {
        S.says("Terms 3", "of several the first by rows (of GEESE, PATHS by numbers)");
        GooseBorder three = with("path 1 1 0;path 1 1 0;path 1 1 0;" + GOOSE.repeat(6));
        int[] wants = {0, 0, 1, 1, 2, 2};
        for (int g = 0; g < 6; g++) {
            S.due("goose " + g, three.even(0, 10 + g), wants[g]);
        }
        GooseBorder unpaid = with("path 1 0 0;".repeat(5) + GOOSE.repeat(6));
        for (int g = 0; g < 6; g++) {
            S.due("all rows are alike, goose " + g, unpaid.even(0, 10 + g), 0);
        }
        /* 1 and 3 marks against 2 and 2: 0 1 1 0 is as far apart as 1 0 0 1 */
        GooseBorder four = with("path 1 1 0;path 1 1 0;goose 1 0 0 0 0;goose 2 0 0 0 0;goose 2 0 0 0 0;goose 3 0 0 0 0;");
        int[] rows = {0, 1, 1, 0};
        for (int g = 0; g < 4; g++) {
            S.due("goose " + g + " of four", four.even(0, 10 + g), rows[g]);
        }
    }

    private static void evenLeast() {
        S.says("Terms 3", "so that the most less the least PAY is least");
        for (int toes = 0; toes <= 4; toes++) {
            GooseBorder x = with("path 1 1 0;path 1 1 0;goose 2 0 0 0 0;goose " + toes + " 0 0 0 0;");
            S.due("2 and " + toes, x.even(0, 0), Math.abs(2 - toes));
        }
        GooseBorder rates = with("path 1 9 9;path 1 1 0;goose 4 4 0 1 0;goose 1 0 0 0 0;");
        /* 16 by 1 against 1 padded to 1 by 9 */
        S.due("difference", rates.even(0, 0), 7);
        S.due("pay of 0", rates.even(0, 20), 9);
        S.due("pay of 1", rates.even(0, 21), 16);
        GooseBorder between = with("path 1 1 0;path 1 1 0;path 1 1 0;goose 4 4 0 0 0;" + GOOSE);
        S.due("a path between does not count, one by which nobody goes does", between.even(0, 0), 8);
    }

    private static void evenOfOneOrNoPath() {
        S.says("Promise 15", "NONE: there are more than 6 GEESE, no PATHS, there is none such");
        S.due("no paths", with(GOOSE).even(0, 0), NONE);
        S.due("no paths, goose 0", with(GOOSE).even(0, 10), NONE);
        S.due("no paths, no geese", with("").even(0, 0), NONE);
        S.due("one path", with("path 1 9 0;" + GOOSE).even(0, 0), 0);
        S.due("one path's pay", with("path 1 9 0;" + GOOSE).even(0, 20), 9);
        S.due("five paths", with("path 1 9 0;".repeat(5) + GOOSE).even(0, 0), 9);
        S.due("no geese", with("path 1 9 0;path 1 8 0;").even(0, 0), 0);
        S.due("no geese, pay", with("path 1 9 0;path 1 8 0;").even(0, 21), 0);
        S.due("border -1", with("path 1 9 0;").even(-1, 0), NONE);
        S.due("border 1", with("path 1 9 0;").even(1, 0), NONE);
        S.due("7 geese, no paths", with(GOOSE.repeat(7)).even(0, 0), NONE);
    }

    private static void evenWhats() {
        S.says("Promise 15", "what 0: the difference, 10 + g: GOOSE g's PATH, 20 + p: PAY of PATH p ... or for another what");
        for (int paths = 1; paths <= 5; paths++) {
            for (int geese = 0; geese <= 6; geese += 3) {
                GooseBorder x = with("path 1 1 0;".repeat(paths) + GOOSE.repeat(geese));
                for (int what = -12; what <= 40; what++) {
                    boolean told = what == 0 || what >= 10 && what < 10 + geese || what >= 20 && what < 20 + paths;
                    S.due("even " + what, x.even(0, what) != NONE, told);
                }
            }
        }
    }

    private static void richestWithManyGeese() {
        S.says("Promise 16", "NONE: as even(), or there is none such.");
        for (int geese = 0; geese <= 8; geese++) {
            GooseBorder x = by("path 1 0 0;path 2 0 0;" + GOOSE.repeat(geese), "each 3;");
            S.due("richest of " + geese, x.richest(0, 0, 0), geese <= 6 ? 6 * geese : NONE);
            S.due("the first goose of " + geese, x.richest(0, 0, 10), geese <= 6 && geese > 0 ? 1 : NONE);
        }
        S.due("no paths", by(GOOSE, "each 3;").richest(0, 0, 0), NONE);
        S.due("no such law", by("path 1 1 1;" + GOOSE, "each 3;").richest(0, 1, 0), NONE);
        S.due("no such law", by("path 1 1 1;" + GOOSE, "each 3;").richest(0, -1, 0), NONE);
        S.due("no such border", by("path 1 1 1;" + GOOSE, "each 3;").richest(1, 0, 0), NONE);
        S.due("no such border", by("path 1 1 1;" + GOOSE, "each 3;").richest(-1, 0, 0), NONE);
        S.due("no laws at all", with("path 1 1 1;" + GOOSE).richest(0, 0, 0), NONE);
    }

    private static void richestFirstByRows() {
        S.says("Terms 3", "RICHEST by a LAW: likewise");
        String border = "path 1 1 0;path 1 1 0;" + GOOSE.repeat(3);
        /* of 3 marks: 0 and 3, or 1 and 2 */
        int[][] wants = {{0, 0, 0}, {0, 0, 1}, {0, 0, 0}, {0, 0, 0}};
        String[] laws = {"", "most 0;above 0 5;", "each 7;", "above 1 9;below 2 3;"};
        int[] most = {0, 10, 21, 12};
        for (int i = 0; i < laws.length; i++) {
            GooseBorder x = by(border, laws[i]);
            S.due("by '" + laws[i] + "'", x.richest(0, 0, 0), most[i]);
            for (int g = 0; g < 3; g++) {
                S.due("goose " + g + " by '" + laws[i] + "'", x.richest(0, 0, 10 + g), wants[i][g]);
            }
        }
    }

    private static void richestOfPadded() {
        S.says("Terms 3", "all guards together are paid most by that LAW of PADDED MARKS");
        for (int pad : new int[] {0, 4, 5, 9}) {
            GooseBorder x = by("path 2 0 " + pad + ";" + GOOSE, "each 1;above 2 50;");
            S.due("2 marks, pad " + pad, x.richest(0, 0, 0), pad < 5 ? 2 : 53);
        }
        S.due("guards whose paths nobody goes by are paid, too", by("path 1 1 0;".repeat(5), "below 1 9;").richest(0, 0, 0), 45);
        S.due("by a law that pays for nothing", by("path 1 1 0;".repeat(5) + GOOSE, "below 1 9;").richest(0, 0, 0), 36);
    }

    private static void richestWhats() {
        S.says("Promise 16", "what 0: all together, 10 + g: GOOSE g's PATH");
        for (int geese = 0; geese <= 6; geese += 2) {
            GooseBorder x = by("path 1 1 0;path 1 1 0;" + GOOSE.repeat(geese), "odd 3;");
            for (int what = -12; what <= 40; what++) {
                boolean told = what == 0 || what >= 10 && what < 10 + geese;
                S.due("richest " + what, x.richest(0, 0, what) != NONE, told);
            }
        }
    }

    private static void tar(String border, int[][] wants) {
        GooseBorder x = with(border);
        for (int[] want : wants) {
            S.due("tar of '" + border + "' " + want[0], x.tar(0, 0, want[0]), want[1]);
        }
    }

    private static void tarNotAboveTheLimit() {
        S.says("Terms 3", "the fewest miles of BOOTS, all together, so that its TALLY is not above the limit");
        tar("path 1 1 0;goose 4 4 0 0 0;", new int[][] {{1, NONE}, {2, 1}, {3, 1}, {7, 1}, {8, 0}, {9, 0}});
        tar("path 3 1 0;goose 4 4 0 0 0;", new int[][] {{5, NONE}, {6, 3}, {7, 3}, {11, 3}, {12, 2}, {13, 2}, {17, 2}, {18, 1},
            {23, 1}, {24, 0}, {25, 0}});
        /* 8, 3 and 16: a mile of boots spares 6, 1, 12 of it */
        tar("path 1 1 0;goose 4 4 0 0 0;goose 2 1 0 0 0;goose 4 4 0 1 0;", new int[][] {{7, NONE}, {8, 3}, {9, 2}, {14, 2}, {15, 1},
            {26, 1}, {27, 0}});
        tar("path 1 1 0;", new int[][] {{0, 0}, {1, 0}});
    }

    private static void tarOfFirstMiles() {
        S.says("Terms 3", "with BOOTS as new as one likes, each for so many of its first miles as one chooses");
        tar("path 2 1 0;goose 4 4 60 0 0;", new int[][] {{4, 2}, {10, 1}, {15, 1}, {16, 0}});
        tar("path 20 1 0;goose 4 4 0 1 0;", new int[][] {{79, NONE}, {80, 20}, {81, 20}, {91, 20}, {92, 19}, {319, 1}, {320, 0}});
        tar("path 20 1 0;" + "goose 4 4 0 1 0;".repeat(8), new int[][] {{639, NONE}, {640, 160}, {651, 160}, {652, 159}, {2559, 1},
            {2560, 0}, {9999, 0}});
    }

    private static void tarByNone() {
        S.says("Promise 17", "NONE: by none");
        /* with 2 toes boots spare nothing, with fewer they leave more */
        tar("path 9 1 0;goose 1 1 0 0 0;", new int[][] {{17, NONE}, {18, 0}, {19, 0}});
        tar("path 9 1 0;goose 2 0 0 1 0;", new int[][] {{35, NONE}, {36, 0}, {37, 0}});
        tar("path 9 1 0;goose 1 0 0 0 0;", new int[][] {{0, NONE}, {8, NONE}, {9, 0}, {10, 0}});
        tar("path 9 1 0;goose 0 0 0 0 0;", new int[][] {{0, 0}, {1, 0}});
        tar("path 9 1 0;goose 2 1 0 0 0;", new int[][] {{17, NONE}, {18, 9}, {26, 1}, {27, 0}});
        tar("path 1 1 0;goose 1 0 0 0 0;goose 2 1 0 0 0;", new int[][] {{2, NONE}, {3, 1}, {4, 0}});
    }

    private static void tarLimits() {
        S.says("Promise 17", "a limit, 0 .. 9999 ... or another limit");
        GooseBorder x = with("path 1 1 0;goose 0 0 0 0 0;");
        for (int limit : LIMITS) {
            S.due("tar " + limit, x.tar(0, 0, limit), NONE);
        }
        for (int limit : new int[] {0, 1, 9998, 9999}) {
            S.due("tar " + limit, x.tar(0, 0, limit), 0);
            S.due("of no path", x.tar(0, 1, limit), NONE);
            S.due("of no path", x.tar(0, -1, limit), NONE);
            S.due("of no border", x.tar(1, 0, limit), NONE);
            S.due("of no border", x.tar(-1, 0, limit), NONE);
        }
    }

    private static void lames() {
        S.says("Terms 3", "how much more PAY the guard of a PATH has, if all GEESE march by it, than if none LIMPED");
        for (int limp = 0; limp <= 1; limp++) {
            GooseBorder x = with("path 3 2 5;goose 1 0 0 " + limp + " 0;goose 1 1 1 0 0;");
            /* 3 or 6, and 6: 9 padded is 13, 12 is 18 */
            S.due("limp " + limp, x.lame(0, 0, -1), limp * 10);
        }
        S.due("no geese", with("path 3 2 5;").lame(0, 0, -1), 0);
        S.due("no rate", with("path 3 0 5;goose 4 4 0 1 0;").lame(0, 0, -1), 0);
        S.due("no toes", with("path 3 9 9;goose 0 0 0 1 0;").lame(0, 0, -1), 0);
        S.due("all there can be", with("path 20 9 9;" + "goose 4 4 0 1 0;".repeat(8)).lame(0, 0, -1), 21888);
        GooseBorder five = with("path 3 1 1;".repeat(5) + "goose 1 0 0 1 0;goose 1 0 0 0 0;");
        for (int p = 0; p < 5; p++) {
            S.due("five paths, of " + p, five.lame(0, p, -1), 3);
        }
    }

    private static void bests() {
        S.says("Terms 3", "BEST of a GOOSE: the PATH by which its PAY alone is most; of several the least");
        for (int miles = 1; miles <= 3; miles++) {
            GooseBorder x = with("path 2 1 0;path " + miles + " 1 0;" + GOOSE);
            S.due("2 and " + miles, x.lame(0, 0, 0), miles > 2 ? 1 : 0);
            GooseBorder y = with("path " + miles + " 1 0;path 2 1 0;" + GOOSE);
            S.due(miles + " and 2", y.lame(0, 0, 0), miles < 2 ? 1 : 0);
        }
        S.due("all alike", with("path 1 1 0;".repeat(5) + GOOSE).lame(0, 0, 0), 0);
        S.due("paid nothing", with("path 1 0 0;".repeat(5) + GOOSE).lame(0, 0, 0), 0);
        S.due("the last", with("path 1 1 0;".repeat(4) + "path 1 2 0;" + GOOSE).lame(0, 0, 0), 4);
        S.due("alone: others do not count", with("path 1 2 0;path 2 1 5;" + GOOSE.repeat(8)).lame(0, 0, 7), 1);
    }

    private static void bestOrLame() {
        S.says("Promise 18", "LAME of a PATH, or (goose 0 .. 7) BEST of a GOOSE (path is not asked).");
        for (int geese : new int[] {1, 2, 7, 8}) {
            GooseBorder x = with("path 1 1 0;path 1 5 0;" + "goose 2 2 0 1 0;".repeat(geese));
            for (int g = 0; g <= 7; g++) {
                for (int path : new int[] {Integer.MIN_VALUE, -1, 0, 1, 2, Integer.MAX_VALUE}) {
                    S.due("best of " + g + " of " + geese, x.lame(0, path, g), g < geese ? 1 : NONE);
                }
            }
            for (int g : new int[] {Integer.MIN_VALUE, -2, -1, 8, 9, Integer.MAX_VALUE}) {
                S.due("lame of 0", x.lame(0, 0, g), 4 * geese);
                S.due("lame of 1", x.lame(0, 1, g), 20 * geese);
                S.due("lame of 2", x.lame(0, 2, g), NONE);
                S.due("lame of -1", x.lame(0, -1, g), NONE);
            }
            S.due("best of no border", x.lame(1, 0, 0), NONE);
            S.due("lame of no border", x.lame(-1, 0, -1), NONE);
        }
        S.says("Promise 18", "no PATHS (BEST)");
        S.due("no paths", with(GOOSE).lame(0, 0, 0), NONE);
        S.due("one path", with("path 1 0 0;" + GOOSE).lame(0, 0, 0), 0);
        S.due("no paths, lame", with(GOOSE).lame(0, 0, -1), NONE);
    }

    private static void aboveTheCap() {
        S.says("Terms 3", "if PAY of all PATHS together ... is above the CAP, who PADS gets nothing; else all get theirs");
        /* tallies 10 and 20; padded 15 and 30; pay 20 or 30, 20 or 30 */
        String paths = "path 10 2 5;path 20 1 5;" + GOOSE + GOOSE;
        String night = "march 0 0;march 1 1;";
        int[] all = {40, 50, 50, 60};
        for (int set = 0; set < 4; set++) {
            for (int cap = all[set] - 1; cap <= all[set] + 1; cap++) {
                GooseBorder x = with(paths + "cap " + cap + ";", night);
                for (int path = 0; path < 2; path++) {
                    boolean pads = (set >> path & 1) == 1;
                    int want = !pads ? 20 : cap < all[set] ? 0 : 30;
                    S.due("set " + set + " path " + path + " cap " + cap, x.take(0, 0, set, path), want);
                }
            }
        }
    }

    private static void capsOfNothing() {
        S.says("Terms 1, in the GAME", "a CAP, 0 .. 999 (none at first)");
        String border = "path 20 9 9;" + "goose 4 4 0 1 0;".repeat(8);
        String night = "march 0 0;march 1 0;march 2 0;march 3 0;march 4 0;march 5 0;march 6 0;march 7 0;";
        S.due("no cap", with(border, night).take(0, 0, 1, 0), 43776);
        S.due("the most cap", with(border + "cap 999;", night).take(0, 0, 1, 0), 0);
        S.due("the most cap, honest", with(border + "cap 999;", night).take(0, 0, 0, 0), 23040);
        S.due("cap 0, nothing to pay", with("path 1 1 0;cap 0;", "").take(0, 0, 1, 0), 0);
        S.due("cap 0", with("path 1 1 0;" + GOOSE + "cap 0;", "march 0 0;").take(0, 0, 1, 0), 0);
        S.due("cap 0, honest", with("path 1 1 0;" + GOOSE + "cap 0;", "march 0 0;").take(0, 0, 0, 0), 1);
        S.due("cap 1", with("path 1 1 0;" + GOOSE + "cap 1;", "march 0 0;").take(0, 0, 1, 0), 1);
    }

    private static void restsOf(String border, String night, int... sets) {
        GooseBorder x = with(border, night);
        S.due("how many", x.rest(0, 0, NONE), sets.length);
        for (int k = 0; k < sets.length; k++) {
            S.due("rest " + k, x.rest(0, 0, k), sets[k]);
        }
        S.due("one more", x.rest(0, 0, sets.length), -2);
        S.due("rest -2", x.rest(0, 0, -2), -2);
    }

    private static void rests() {
        S.says("Terms 3", "sets of guards (bits) who PAD, so that none gets more by changing alone");
        String night = "march 0 0;march 1 1;";
        String paths = "path 10 2 5;path 20 1 5;" + GOOSE + GOOSE;
        restsOf(paths, night, 3);
        restsOf(paths + "cap 60;", night, 3);
        restsOf(paths + "cap 59;", night, 1, 2);
        restsOf(paths + "cap 50;", night, 1, 2);
        restsOf(paths + "cap 49;", night, 0);
        restsOf(paths, "", 0, 1, 2, 3);
        restsOf("path 1 1 0;path 1 1 0;" + GOOSE + GOOSE, night, 0, 1, 2, 3);
        restsOf("path 1 1 0;path 1 1 0;" + GOOSE + GOOSE + "cap 1;", night, 0);
        restsOf("path 1 1 0;path 1 1 0;" + GOOSE + GOOSE + "cap 2;", night, 0, 1, 2, 3);
    }

    private static void restNumbers() {
        S.says("Promise 19", "how many sets (k NONE), or the k-th. -2: there is none such (of any).");
        GooseBorder none = with("", "");
        S.due("no paths: the empty set", none.rest(0, 0, NONE), 1);
        S.due("no paths: the empty set", none.rest(0, 0, 0), 0);
        S.due("no paths: no more", none.rest(0, 0, 1), -2);
        GooseBorder five = with("path 1 1 0;".repeat(5), "");
        S.due("of 5 guards all", five.rest(0, 0, NONE), 32);
        for (int k = 0; k < 32; k++) {
            S.due("the k-th by numbers", five.rest(0, 0, k), k);
        }
        for (int k : new int[] {Integer.MIN_VALUE, -3, -2, 32, 33, Integer.MAX_VALUE}) {
            S.due("rest " + k, five.rest(0, 0, k), -2);
        }
        for (int k : new int[] {NONE, 0}) {
            S.due("no such border", five.rest(1, 0, k), -2);
            S.due("no such border", five.rest(-1, 0, k), -2);
            S.due("no such night", five.rest(0, 1, k), -2);
            S.due("no such night", five.rest(0, -1, k), -2);
        }
    }

    private static void takeSets() {
        S.says("Promise 20", "TAKE of the guard of a PATH, if a set of guards PADS. NONE: there is none such (of any).");
        for (int paths = 1; paths <= 5; paths++) {
            GooseBorder x = with("path 1 1 0;".repeat(paths) + GOOSE, "march 0 " + (paths - 1) + ";");
            int all = 1 << paths;
            for (int set : new int[] {0, 1, all - 2, all - 1}) {
                S.due("set " + set + " of " + paths, x.take(0, 0, set, paths - 1), 1);
            }
            for (int set : new int[] {Integer.MIN_VALUE, -2, -1, all, all + 1, Integer.MAX_VALUE}) {
                S.due("set " + set + " of " + paths, x.take(0, 0, set, paths - 1), NONE);
            }
            S.due("path " + paths, x.take(0, 0, 0, paths), NONE);
            S.due("path -1", x.take(0, 0, 0, -1), NONE);
        }
        S.due("no paths", with("", "").take(0, 0, 0, 0), NONE);
    }

    private static void honest() {
        S.says("Terms 5", "HONEST: what the guard of a PATH loses by not PADDING at the end of a NIGHT");
        int[][] wants = {{9, 1, 0}, {10, 1, 3}, {11, 1, 3}, {20, 9, 54}, {20, 0, 0}, {1, 9, 0}, {2, 9, 3}};
        for (int[] want : wants) {
            GooseBorder x = with("path " + want[0] + " 3 " + want[1] + ";" + GOOSE, "march 0 0;");
            S.due(want[0] + " by " + want[1] + " tenths", x.honest(0, 0, 0), want[2]);
        }
        S.due("nothing passed", with("path 9 9 9;", "").honest(0, 0, 0), 0);
        S.due("no rate", with("path 20 0 9;" + GOOSE, "march 0 0;").honest(0, 0, 0), 0);
        S.due("the end is STOP", with("path 10 1 1;" + GOOSE, "march 0 0;march 0 0;rain 10;").honest(0, 0, 0), 1);
    }
}
