/** The bounds of nights, states, tallies, pay and laws, sentence by sentence. */
public final class NightBoundsTest {
    private static final Sentences S = new Sentences();
    private static final int NONE = GooseBorder.NONE;
    private static final int HOME = 0;
    private static final int OVER = 1;
    private static final int EATEN = 2;

    public static void main(String[] args) {
        allHomeAtFirst();
        bootsAsLongAsTheyLast();
        bootsWear();
        frostInBoots();
        twiceIfItLimps();
        noToes();
        marchesFromHome();
        backFromHome();
        homeFromOver();
        carriesFromHome();
        carriedLeavesNothing();
        recasts();
        rainInTenths();
        rainIsCut();
        rainOfBoth();
        frostAndThaw();
        foxes();
        foxesWhereTheyAre();
        foxesTakeNoCarried();
        foxesOfEight();
        noSuchGooseOrPath();
        eatenOnes();
        stops();
        statesUpToStop();
        statesInAnyOrder();
        tallies();
        padded();
        pay();
        laws();
        aboves();
        belows();
        odds();
        mosts();
        paysOfNumbers();
        hundreds();
        trails();
        worn();
        pathsWentByLast();
        numbersOfDeeds();
        numbersOfTerms();
        S.finish();
    }

    private static GooseBorder with(String border, String night) {
        return Teller.told(border, night, null, null);
    }

    /** One path of so many miles, one goose of one toe: it leaves a mark a mile. */
    private static String oneToe(int miles, int rate, int pad) {
        return "path " + miles + " " + rate + " " + pad + ";goose 1 0 0 0 0;";
    }

    private static void stop(String border, String night, int want) {
        S.due("stop of '" + night + "'", with(border, night).stop(0, 0), want);
    }

    private static void allHomeAtFirst() {
        S.says("Terms 2", "All GEESE are HOME at first.");
        for (int geese : new int[] {0, 1, 7, 8}) {
            GooseBorder x = with("path 1 1 1;" + "goose 1 1 1 1 3;".repeat(geese), "");
            S.due("home", x.state(0, 0, 0, HOME), (1 << geese) - 1);
            S.due("over", x.state(0, 0, 0, OVER), 0);
            S.due("eaten", x.state(0, 0, 0, EATEN), 0);
            S.due("worth of them", x.state(0, 0, 0, 3), 3 * geese);
            S.due("the last one", x.goose(0, 0, 0, geese - 1, 0), geese == 0 ? -2 : HOME);
        }
    }

    private static void bootsAsLongAsTheyLast() {
        S.says("Terms 2", "in each mile one with each foot in BOOTS ... as long as these last ... with each toe without");
        int[][] wants = {{0, 21}, {1, 16}, {2, 11}, {3, 6}, {4, 6}, {59, 6}, {60, 6}};
        for (int[] want : wants) {
            GooseBorder x = with("path 3 1 0;goose 3 4 " + want[0] + " 0 0;", "march 0 0;");
            S.due("marks in boots for " + want[0], x.marks(0, 0, 0, false), want[1]);
            S.due("marks on the path", x.path(0, 0, 1, 0, 0), want[1]);
        }
        for (int miles : new int[] {1, 2, 19, 20}) {
            GooseBorder x = with("path " + miles + " 1 0;goose 0 0 19 0 0;goose 0 1 0 0 0;", "");
            S.due("boots for 19 on " + miles, x.marks(0, 0, 0, false), 2 * Math.min(19, miles));
            S.due("a toe on " + miles, x.marks(0, 1, 0, false), miles);
        }
    }

    private static void bootsWear() {
        S.says("Terms 2", "each mile it goes wears them by 1");
        String night = "march 0 0;home 0 0;march 0 0;home 0 0;";
        int[][] wants = {{60, 40, 20, 0, 0}, {59, 39, 19, 0, 0}, {21, 1, 0, 0, 0}, {20, 0, 0, 0, 0}, {19, 0, 0, 0, 0},
            {1, 0, 0, 0, 0}, {0, 0, 0, 0, 0}};
        for (int[] want : wants) {
            GooseBorder x = with("path 20 1 0;goose 4 4 " + want[0] + " 0 0;", night);
            for (int n = 0; n < want.length; n++) {
                S.due("boots for " + want[0] + " behind " + n, x.goose(0, 0, n, 0, 1), want[n]);
            }
        }
        GooseBorder x = with("path 20 1 0;goose 4 4 59 0 0;", night);
        S.due("marks there", x.path(0, 0, 4, 0, 0), 40 + 38 + 8);
        S.due("marks home", x.path(0, 0, 4, 0, 1), 40 + 160);
    }

    private static void frostInBoots() {
        S.says("Terms 2", "in FROST none in BOOTS");
        int[][] wants = {{0, 24}, {1, 16}, {2, 8}, {3, 0}, {4, 0}};
        for (int[] want : wants) {
            GooseBorder x = with("path 3 1 0;goose 4 4 " + want[0] + " 0 0;", "frost;march 0 0;");
            S.due("marks in frost in boots for " + want[0], x.marks(0, 0, 0, true), want[1]);
            S.due("marks on the path", x.path(0, 0, 2, 0, 0), want[1]);
            S.due("boots wear all the same", x.goose(0, 0, 2, 0, 1), Math.max(0, want[0] - 3));
            S.due("trail", x.goose(0, 0, 2, 0, 2), want[1]);
        }
    }

    private static void twiceIfItLimps() {
        S.says("Terms 2", "twice as many, if it LIMPS");
        for (int limp = 0; limp <= 1; limp++) {
            GooseBorder x = with("path 20 1 0;goose 4 4 0 " + limp + " 0;goose 4 4 60 " + limp + " 0;goose 0 1 19 " + limp
                + " 0;", "");
            S.due("most toes", x.marks(0, 0, 0, false), 160 * (1 + limp));
            S.due("boots", x.marks(0, 1, 0, false), 40 * (1 + limp));
            S.due("boots in frost", x.marks(0, 1, 0, true), 0);
            S.due("a toe in the last mile", x.marks(0, 2, 0, false), 39 * (1 + limp));
            S.due("a toe in the last mile in frost", x.marks(0, 2, 0, true), 1 + limp);
        }
    }

    private static void noToes() {
        S.says("Terms 2", "with each toe without");
        GooseBorder x = with("path 2 1 0;goose 0 0 0 1 0;goose 1 0 0 0 0;goose 0 1 0 0 0;goose 4 3 0 0 0;goose 4 4 0 0 0;",
            "march 0 0;");
        int[] wants = {0, 2, 2, 14, 16};
        for (int g = 0; g < wants.length; g++) {
            S.due("marks of goose " + g, x.marks(0, g, 0, false), wants[g]);
        }
        S.due("one without toes goes over all the same", x.goose(0, 0, 1, 0, 0), OVER);
        S.due("and leaves nothing", x.path(0, 0, 1, 0, 0), 0);
    }

    private static final String TWO = "path 2 1 0;path 3 1 0;goose 1 0 0 0 10;goose 1 1 0 0 20;";

    private static void marchesFromHome() {
        S.says("Terms 2", "march: it goes from HOME OVER");
        stop(TWO, "march 0 0;", 1);
        stop(TWO, "march 0 0;march 0 0;", 1);
        stop(TWO, "march 0 0;march 0 1;", 1);
        stop(TWO, "march 0 0;march 1 0;", 2);
        stop(TWO, "march 0 0;home 0 0;march 0 0;", 3);
        GooseBorder x = with(TWO, "march 0 0;");
        S.due("over", x.goose(0, 0, 1, 0, 0), OVER);
        S.due("home ahead of it", x.goose(0, 0, 0, 0, 0), HOME);
        S.due("marks", x.path(0, 0, 1, 0, 0), 2);
        S.due("no exports", x.path(0, 0, 1, 0, 1), 0);
    }

    private static void backFromHome() {
        S.says("Terms 2", "back: likewise, but backwards: its MARKS are EXPORTS of the PATH");
        stop(TWO, "back 0 0;", 1);
        stop(TWO, "back 0 0;back 0 0;", 1);
        stop(TWO, "march 0 0;back 0 0;", 1);
        stop(TWO, "back 0 0;home 0 0;back 0 1;", 3);
        GooseBorder x = with(TWO, "back 0 1;");
        S.due("over", x.goose(0, 0, 1, 0, 0), OVER);
        S.due("no marks", x.path(0, 0, 1, 1, 0), 0);
        S.due("exports", x.path(0, 0, 1, 1, 1), 3);
        S.due("no exports of the other", x.path(0, 0, 1, 0, 1), 0);
    }

    private static void homeFromOver() {
        S.says("Terms 2", "home: from OVER HOME (EXPORTS, too)");
        stop(TWO, "home 0 0;", 0);
        stop(TWO, "march 0 0;home 0 1;", 2);
        stop(TWO, "march 0 0;home 0 1;home 0 1;", 2);
        stop(TWO, "back 0 0;home 0 0;", 2);
        stop(TWO, "carry 0 1 0;home 1 0;home 0 0;", 3);
        stop(TWO, "march 1 0;home 0 0;", 1);
        GooseBorder x = with(TWO, "march 0 0;home 0 1;");
        S.due("home", x.goose(0, 0, 2, 0, 0), HOME);
        S.due("exports", x.path(0, 0, 2, 1, 1), 3);
        S.due("no marks there", x.path(0, 0, 2, 1, 0), 0);
    }

    private static void carriesFromHome() {
        S.says("Terms 2", "carry: both are HOME");
        stop(TWO, "carry 0 1 0;", 1);
        stop(TWO, "carry 1 0 0;", 1);
        GooseBorder x = with(TWO, "carry 0 1 1;");
        S.due("both are over", x.state(0, 0, 1, OVER), 3);
        S.says("Terms 2", "not where it should be ... carry: either one");
        stop(TWO, "march 0 0;carry 0 1 0;", 1);
        stop(TWO, "march 1 0;carry 0 1 0;", 1);
        stop(TWO, "march 1 0;home 1 0;carry 0 1 0;", 3);
        stop(TWO, "march 0 0;fox 0;carry 0 1 0;", 2);
        stop(TWO, "march 1 0;fox 0;carry 0 1 0;", 2);
        stop(TWO, "carry 0 2 0;", 0);
        stop(TWO, "carry 2 0 0;", 0);
        stop(TWO, "carry 0 1 2;", 0);
        stop(TWO, "carry 0 1 0;carry 0 1 0;", 1);
        stop(TWO, "carry 0 1 0;carry 1 0 0;", 1);
    }

    private static void carriedLeavesNothing() {
        S.says("Terms 2", "the other one is OVER, too, and leaves nothing (its BOOTS do not wear)");
        GooseBorder x = with("path 2 1 0;goose 1 0 2 0 0;goose 4 4 2 1 0;", "carry 0 1 0;");
        S.due("marks of the one", x.path(0, 0, 1, 0, 0), 4);
        S.due("boots of the one", x.goose(0, 0, 1, 0, 1), 0);
        S.due("boots of the other", x.goose(0, 0, 1, 1, 1), 2);
        S.due("trail of the other", x.goose(0, 0, 1, 1, 2), 0);
        S.due("worn", x.state(0, 0, 1, 6), 1);
    }

    private static void recasts() {
        S.says("Terms 2", "recast: its BOOTS last so long from then on");
        for (int boots : new int[] {0, 1, 2, 3, 59, 60}) {
            GooseBorder x = with("path 2 1 0;goose 4 4 1 0 0;", "recast 0 " + boots + ";march 0 0;recast 0 " + boots + ";");
            S.due("boots", x.goose(0, 0, 1, 0, 1), boots);
            S.due("worn ones", x.goose(0, 0, 2, 0, 1), Math.max(0, boots - 2));
            S.due("marks", x.path(0, 0, 2, 0, 0), boots == 0 ? 16 : boots == 1 ? 10 : 4);
            S.due("boots once more", x.goose(0, 0, 3, 0, 1), boots);
            S.due("as told", x.marks(0, 0, 0, false), 10);
        }
        S.says("Terms 2", "recast: only that it is not EATEN");
        stop(TWO, "recast 1 5;", 1);
        stop(TWO, "march 1 0;recast 1 5;", 2);
        stop(TWO, "march 1 0;home 1 0;recast 1 5;", 3);
        stop(TWO, "march 1 0;fox 0;recast 1 5;", 2);
        stop(TWO, "march 1 0;fox 0;recast 0 5;", 3);
        stop(TWO, "recast 2 5;", 0);
    }

    private static void rainInTenths() {
        S.says("Terms 2", "rain: of MARKS and EXPORTS of each PATH so many tenths");
        for (int tenths = 0; tenths <= 10; tenths++) {
            GooseBorder x = with("path 10 1 0;path 20 1 0;goose 1 0 0 0 0;goose 1 0 0 0 0;goose 0 1 0 0 0;",
                "march 0 0;march 1 1;back 2 1;rain " + tenths + ";");
            S.due("marks of 10", x.path(0, 0, 4, 0, 0), 10 - tenths);
            S.due("marks of 20", x.path(0, 0, 4, 1, 0), 20 - 2 * tenths);
            S.due("exports of 20", x.path(0, 0, 4, 1, 1), 20 - 2 * tenths);
            S.due("washed away of 10", x.path(0, 0, 4, 0, 5), tenths);
            S.due("washed away of 20 and 20", x.path(0, 0, 4, 1, 5), 4 * tenths);
            S.due("no rain yet", x.path(0, 0, 3, 1, 5), 0);
        }
    }

    private static void rainIsCut() {
        S.says("Terms 2", "so many tenths, cut, are washed away");
        int[][] wants = {{9, 1, 0}, {10, 1, 1}, {11, 1, 1}, {19, 1, 1}, {20, 1, 2}, {1, 9, 0}, {1, 10, 1}, {2, 5, 1},
            {3, 5, 1}, {4, 5, 2}, {9, 9, 8}, {10, 9, 9}, {11, 9, 9}, {12, 9, 10}, {19, 0, 0}, {19, 10, 19}};
        for (int[] want : wants) {
            GooseBorder x = with(oneToe(want[0], 1, 0), "march 0 0;rain " + want[1] + ";");
            String name = want[1] + " tenths of " + want[0];
            S.due(name, x.path(0, 0, 2, 0, 5), want[2]);
            S.due("what is left by " + name, x.path(0, 0, 2, 0, 0), want[0] - want[2]);
        }
        GooseBorder x = with(oneToe(9, 1, 0), "march 0 0;rain 5;rain 5;rain 5;rain 5;");
        int[] left = {0, 9, 5, 3, 2, 1};
        for (int n = 0; n < left.length; n++) {
            S.due("rain upon rain, " + n, x.path(0, 0, n, 0, 0), left[n]);
            S.due("all that is washed away, " + n, x.path(0, 0, n, 0, 5), n == 0 ? 0 : 9 - left[n]);
        }
    }

    private static void rainOfBoth() {
        S.says("Promise 11", "5: what is washed away (of both)");
        GooseBorder x = with("path 5 1 0;goose 1 0 0 0 0;goose 1 0 0 0 0;", "march 0 0;back 1 0;rain 1;rain 2;rain 10;");
        int[] wants = {0, 0, 0, 0, 2, 10};
        for (int n = 0; n < wants.length; n++) {
            // 5 and 5 by a tenth are 0 and 0, not 1 of 10
            S.due("washed away behind " + n, x.path(0, 0, n, 0, 5), wants[n]);
        }
    }

    private static void frostAndThaw() {
        S.says("Terms 2", "frost: there is FROST from then on; thaw: no more");
        GooseBorder x = with("path 1 1 0;goose 0 0 9 0 0;", "thaw;frost;frost;march 0 0;thaw;home 0 0;thaw;");
        int[] wants = {0, 0, 1, 1, 1, 0, 0, 0};
        for (int n = 0; n < wants.length; n++) {
            S.due("frost behind " + n, x.state(0, 0, n, 8), wants[n]);
        }
        S.due("marks in frost", x.path(0, 0, 7, 0, 0), 0);
        S.due("exports behind it", x.path(0, 0, 7, 0, 1), 2);
    }

    private static final String THREE = "path 1 1 0;path 2 1 0;goose 1 0 0 0 1;goose 1 0 0 0 2;goose 1 0 0 0 4;";

    private static void foxes() {
        S.says("Terms 2", "of those who have gone by the PATH this NIGHT ... the latest that is still there is EATEN");
        GooseBorder x = with(THREE, "march 2 0;back 0 0;march 1 1;fox 0;fox 0;fox 0;");
        S.due("the latest by it", x.state(0, 0, 4, EATEN), 1);
        S.due("the one ahead", x.state(0, 0, 5, EATEN), 5);
        S.due("nobody more", x.stop(0, 0), 5);
        S.due("who went by another is there", x.state(0, 0, 5, OVER), 2);
        S.due("worth of the eaten", x.state(0, 0, 5, 5), 5);
        GooseBorder home = with(THREE, "march 0 0;march 1 0;home 0 0;fox 0;");
        S.due("who went home by it", home.state(0, 0, 4, EATEN), 1);
        S.says("Terms 2", "fox: if nobody is");
        stop(THREE, "fox 0;", 0);
        stop(THREE, "march 0 0;fox 0;", 2);
        stop(THREE, "march 0 0;fox 1;", 1);
        stop(THREE, "march 0 0;fox 0;fox 0;", 2);
        stop(THREE, "march 0 0;march 1 0;fox 0;fox 0;fox 0;", 4);
        stop(THREE, "march 0 1;fox 2;", 1);
        stop(THREE, "march 0 1;fox 4;", 1);
    }

    private static void foxesWhereTheyAre() {
        S.says("Terms 2", "is EATEN, where it is");
        GooseBorder x = with(THREE, "march 0 0;home 0 1;fox 0;");
        S.due("at home", x.goose(0, 0, 2, 0, 0), HOME);
        S.due("eaten there", x.goose(0, 0, 3, 0, 0), EATEN);
        S.due("nobody is over", x.state(0, 0, 3, OVER), 0);
        S.due("who is home", x.state(0, 0, 3, HOME), 6);
        S.due("its marks stay", x.path(0, 0, 3, 0, 0), 1);
        S.due("the path it went by last", x.goose(0, 0, 3, 0, 3), 1);
    }

    private static void foxesTakeNoCarried() {
        S.says("Terms 2", "(marched, back, home, not carried)");
        stop(THREE, "carry 0 1 0;fox 0;fox 0;", 2);
        GooseBorder x = with(THREE, "carry 0 1 0;fox 0;");
        S.due("who carried is eaten", x.state(0, 0, 2, EATEN), 1);
        S.due("who was carried is over", x.state(0, 0, 2, OVER), 2);
        GooseBorder before = with(THREE, "march 1 0;home 1 1;march 2 0;carry 0 1 1;fox 0;fox 0;fox 1;fox 1;");
        S.due("the latest by path 0", before.state(0, 0, 5, EATEN), 4);
        S.due("then who marched by it once", before.state(0, 0, 6, EATEN), 6);
        S.due("by path 1 who carried", before.state(0, 0, 7, EATEN), 7);
        S.due("nobody more", before.stop(0, 0), 7);
        stop(THREE, "carry 0 1 0;home 1 1;fox 1;", 3);
    }

    private static void foxesOfEight() {
        S.says("Terms 2, of 8 GEESE on 5 PATHS", "the latest that is still there is EATEN");
        String border = "path 1 1 0;".repeat(5) + "goose 1 1 0 0 0;".repeat(8);
        String night = "march 7 4;march 6 3;march 5 2;march 4 1;march 3 0;march 0 1;march 2 0;march 1 4;";
        int[] eaten = {1 << 2, 1 << 0, 1 << 5, 1 << 6, 1 << 1};
        for (int path = 0; path < 5; path++) {
            GooseBorder x = with(border, night + "fox " + path + ";");
            S.due("eaten on path " + path, x.state(0, 0, 9, EATEN), eaten[path]);
        }
        GooseBorder all = with(border, night + "fox 4;fox 4;fox 3;fox 2;fox 1;fox 1;fox 0;fox 0;fox 0;");
        S.due("all eight", all.state(0, 0, 16, EATEN), 255);
        S.due("nobody more", all.stop(0, 0), 16);
    }

    private static void noSuchGooseOrPath() {
        S.says("Terms 2", "A DEED can't be, if there is no such GOOSE or PATH");
        for (int geese = 1; geese <= 7; geese++) {
            String border = "path 1 1 0;" + "goose 1 1 1 1 1;".repeat(geese);
            for (String word : new String[] {"march", "back"}) {
                stop(border, word + " " + (geese - 1) + " 0;", 1);
                stop(border, word + " " + geese + " 0;", 0);
            }
            stop(border, "march " + (geese - 1) + " 0;home " + (geese - 1) + " 0;", 2);
            stop(border, "home " + geese + " 0;", 0);
            stop(border, "recast " + (geese - 1) + " 5;recast " + geese + " 5;", 1);
            stop(border, geese > 1 ? "carry " + (geese - 1) + " 0 0;" : "", geese > 1 ? 1 : 0);
            stop(border, "carry " + geese + " 0 0;", 0);
            stop(border, "carry 0 " + geese + " 0;", 0);
        }
        for (int paths = 1; paths <= 4; paths++) {
            String border = "path 1 1 0;".repeat(paths) + "goose 1 1 1 1 1;goose 1 1 1 1 1;";
            int last = paths - 1;
            stop(border, "march 0 " + last + ";fox " + last + ";march 1 " + last + ";home 1 " + last + ";", 4);
            stop(border, "march 0 " + paths + ";", 0);
            stop(border, "back 0 " + last + ";home 0 " + paths + ";", 1);
            stop(border, "back 0 " + paths + ";", 0);
            stop(border, "carry 0 1 " + last + ";", 1);
            stop(border, "carry 0 1 " + paths + ";", 0);
            stop(border, "march 0 " + last + ";fox " + paths + ";", 1);
        }
        stop("", "march 0 0;", 0);
        stop("", "rain 5;frost;thaw;recast 0 0;", 3);
        stop("path 1 1 0;", "march 0 0;", 0);
        stop("goose 1 1 1 1 1;", "march 0 0;", 0);
        stop("path 1 1 0;".repeat(5) + "goose 1 1 1 1 1;".repeat(8), "carry 7 6 4;home 7 4;", 2);
    }

    private static void eatenOnes() {
        S.says("Terms 2", "the GOOSE is EATEN, or not where it should be");
        for (String deed : new String[] {"march 0 0;", "back 0 0;", "home 0 0;", "carry 0 1 0;", "carry 1 0 0;", "recast 0 0;"}) {
            stop(THREE, "march 0 0;fox 0;" + deed, 2);
            stop(THREE, "march 0 0;home 0 0;fox 0;" + deed, 3);
        }
    }

    private static void stops() {
        S.says("Terms 2", "STOP: the first DEED that can't be, else how many there are.");
        for (int deeds : new int[] {0, 1, 2, 23, 24}) {
            stop("", "rain 1;".repeat(deeds), deeds);
            for (int at : new int[] {0, 1, deeds - 2, deeds - 1}) {
                if (at >= 0 && at < deeds) {
                    stop("", "rain 1;".repeat(at) + "fox 0;" + "rain 1;".repeat(deeds - at - 1), at);
                    stop("", "rain 1;".repeat(at) + "fox 0;".repeat(deeds - at), at);
                }
            }
        }
        // what stands behind STOP does not come to pass
        GooseBorder x = with(TWO, "march 0 0;march 0 0;march 1 0;");
        S.due("stop", x.stop(0, 0), 1);
        S.due("who is home", x.state(0, 0, 1, HOME), 2);
    }

    private static void statesUpToStop() {
        S.says("Terms 2", "A STATE is behind the first n DEEDS, n up to STOP.");
        String[] nights = {"", "march 0 0;", "home 0 0;", "march 0 0;march 0 0;rain 1;", "frost;".repeat(24),
            "frost;".repeat(23) + "fox 0;"};
        int[] stops = {0, 1, 0, 1, 24, 23};
        for (int i = 0; i < nights.length; i++) {
            GooseBorder x = with(TWO, nights[i]);
            S.due("stop", x.stop(0, 0), stops[i]);
            for (int n = -3; n <= 30; n++) {
                boolean there = n >= 0 && n <= stops[i];
                S.due("state " + n + " of " + i, x.state(0, 0, n, 2), there ? 0 : -2);
                S.due("goose in " + n + " of " + i, x.goose(0, 0, n, 1, 0), there ? HOME : -2);
                S.due("path in " + n + " of " + i, x.path(0, 0, n, 1, 5), there ? 0 : -2);
            }
        }
    }

    private static void statesInAnyOrder() {
        S.says("Terms 2, in any order", "A STATE is behind the first n DEEDS");
        String border = "path 2 1 0;goose 1 1 0 0 3;goose 1 0 2 0 5;";
        String night = "frost;march 0 0;recast 0 0;march 1 0;rain 5;home 0 0;fox 0;thaw;frost;";
        GooseBorder x = with(border, night);
        for (int first = 9; first >= 0; first--) {
            for (int n = 9; n >= 0; n--) {
                x.state(0, 0, first, 0);
                GooseBorder anew = with(border, night);
                for (int what = 0; what < 9; what++) {
                    S.due("state " + n + " " + what, x.state(0, 0, n, what), anew.state(0, 0, n, what));
                }
                for (int what = 0; what < 6; what++) {
                    S.due("path in " + n + " " + what, x.path(0, 0, n, 0, what), anew.path(0, 0, n, 0, what));
                    S.due("goose in " + n + " " + what, x.goose(0, 0, n, 0, what), anew.goose(0, 0, n, 0, what));
                }
            }
        }
    }

    private static void tallies() {
        S.says("Terms 2", "TALLY of a PATH in a STATE: MARKS less EXPORTS, 0 at least.");
        for (int toes = 0; toes <= 4; toes++) {
            for (int others = 0; others <= 4; others++) {
                GooseBorder x = with("path 1 3 9;goose 0 " + toes + " 0 0 0;goose " + others + " 0 0 0 0;",
                    "march 0 0;back 1 0;");
                int tally = Math.max(0, toes - others);
                S.due(toes + " less " + others, x.path(0, 0, 2, 0, 2), tally);
                S.due("pay of it", x.path(0, 0, 2, 0, 4), 3 * (tally + tally * 9 / 10));
                S.due("exports", x.path(0, 0, 2, 0, 1), others);
            }
        }
    }

    private static void padded() {
        S.says("Terms 2", "PADDED: TALLY, and of it as many tenths, cut, as PAD tells.");
        int[][] wants = {{1, 9, 1}, {2, 5, 3}, {3, 5, 4}, {9, 1, 9}, {10, 1, 11}, {11, 1, 12}, {19, 1, 20}, {20, 1, 22},
            {10, 0, 10}, {11, 9, 20}, {12, 9, 22}, {20, 9, 38}};
        for (int[] want : wants) {
            GooseBorder x = with(oneToe(want[0], 1, want[1]), "march 0 0;");
            S.due(want[0] + " and " + want[1] + " tenths", x.path(0, 0, 1, 0, 3), want[2]);
            S.due("nothing at first", x.path(0, 0, 0, 0, 3), 0);
        }
    }

    private static void pay() {
        S.says("Terms 2", "PAY of a guard: RATE times PADDED.");
        for (int rate : new int[] {0, 1, 8, 9}) {
            GooseBorder x = with(oneToe(11, rate, 1) + "path 1 1 0;", "march 0 0;");
            S.due("pay at " + rate, x.path(0, 0, 1, 0, 4), rate * 12);
            S.due("all pay at " + rate, x.state(0, 0, 1, 7), rate * 12);
        }
        GooseBorder most = with("path 20 9 9;" + "goose 4 4 0 1 99;".repeat(8), "march 0 0;march 1 0;march 2 0;march 3 0;"
            + "march 4 0;march 5 0;march 6 0;march 7 0;");
        S.due("the most there can be", most.path(0, 0, 8, 0, 0), 2560);
        S.due("the most pay there can be", most.path(0, 0, 8, 0, 4), 43776);
        S.due("the most worth there can be", most.state(0, 0, 8, 4), 792);
    }

    private static void law(String text, int[][] wants) {
        GooseBorder x = Teller.told(null, null, text, null);
        for (int[] want : wants) {
            S.due("'" + text + "' of " + want[0], x.pays(0, want[0]), want[1]);
        }
    }

    private static void laws() {
        S.says("Terms 2", "TERM by TERM, all together: each: so much for each");
        law("", new int[][] {{0, 0}, {1, 0}, {9999, 0}});
        law("each 0;", new int[][] {{0, 0}, {9999, 0}});
        law("each 1;", new int[][] {{0, 0}, {1, 1}, {9999, 9999}});
        law("each 9;", new int[][] {{0, 0}, {1, 9}, {9999, 89991}});
        law("each 9;".repeat(8), new int[][] {{0, 0}, {1, 72}, {9999, 719928}});
        law("each 1;odd 1;above 1 1;below 2 1;", new int[][] {{0, 1}, {1, 3}, {2, 3}, {3, 5}});
    }

    private static void aboves() {
        S.says("Terms 2", "above: so much, if there are more");
        law("above 0 7;", new int[][] {{0, 0}, {1, 7}, {2, 7}});
        law("above 5 7;", new int[][] {{4, 0}, {5, 0}, {6, 7}});
        law("above 999 99;", new int[][] {{998, 0}, {999, 0}, {1000, 99}, {9999, 99}});
    }

    private static void belows() {
        S.says("Terms 2", "below: so much, if there are fewer");
        law("below 0 7;", new int[][] {{0, 0}, {1, 0}});
        law("below 1 7;", new int[][] {{0, 7}, {1, 0}, {2, 0}});
        law("below 5 7;", new int[][] {{4, 7}, {5, 0}, {6, 0}});
        law("below 999 99;", new int[][] {{0, 99}, {998, 99}, {999, 0}, {1000, 0}});
    }

    private static void odds() {
        S.says("Terms 2", "odd: so much, if their number is odd");
        law("odd 5;", new int[][] {{0, 0}, {1, 5}, {2, 0}, {3, 5}, {9998, 0}, {9999, 5}});
    }

    private static void mosts() {
        S.says("Terms 2", "most: what the TERMS ahead make together is this at most");
        law("most 9;", new int[][] {{0, 0}, {9999, 0}});
        law("each 1;most 5;", new int[][] {{4, 4}, {5, 5}, {6, 5}, {9999, 5}});
        law("each 1;most 0;", new int[][] {{0, 0}, {1, 0}});
        law("each 1;most 999;", new int[][] {{998, 998}, {999, 999}, {1000, 999}});
        law("most 5;each 1;", new int[][] {{4, 4}, {5, 5}, {6, 6}});
        law("each 1;most 5;odd 3;most 7;each 1;", new int[][] {{3, 9}, {4, 8}, {5, 12}, {6, 11}, {7, 14}});
    }

    private static void paysOfNumbers() {
        S.says("Promise 14", "What a LAW makes of a number of MARKS, 0 .. 9999. NONE: there is none such, or another number.");
        GooseBorder x = Teller.told(null, null, "each 2;", null);
        int[] numbers = {Integer.MIN_VALUE, -2, -1, 0, 1, 9998, 9999, 10000, 10001, Integer.MAX_VALUE};
        for (int n : numbers) {
            S.due("pays " + n, x.pays(0, n), n < 0 || n > 9999 ? NONE : 2 * n);
            S.due("of law -1", x.pays(-1, n), NONE);
            S.due("of law 1", x.pays(1, n), NONE);
        }
    }

    private static void hundreds() {
        S.says("Terms 5", "how many GEESE are HOME, OVER, EATEN, their WORTH");
        GooseBorder x = with("path 1 1 0;" + "goose 1 1 0 0 99;".repeat(8), "march 7 0;march 0 0;fox 0;");
        int[][] wants = {{255, 0, 0, 792, 0, 0}, {127, 128, 0, 693, 99, 0}, {126, 129, 0, 594, 198, 0},
            {126, 128, 1, 594, 99, 99}};
        for (int n = 0; n < wants.length; n++) {
            for (int what = 0; what < 6; what++) {
                S.due("state " + n + " " + what, x.state(0, 0, n, what), wants[n][what]);
            }
        }
    }

    private static void trails() {
        S.says("Terms 5", "all MARKS it has left (washed or not, EXPORTS, too)");
        GooseBorder x = with("path 2 1 0;goose 1 1 1 0 0;goose 1 0 0 0 0;",
            "march 0 0;rain 10;home 0 0;back 0 0;fox 0;rain 10;");
        int[] wants = {0, 4, 4, 8, 12, 12, 12};
        for (int n = 0; n < wants.length; n++) {
            S.due("trail behind " + n, x.goose(0, 0, n, 0, 2), wants[n]);
            S.due("trail of who stays " + n, x.goose(0, 0, n, 1, 2), 0);
        }
    }

    private static void worn() {
        S.says("Terms 5", "GEESE (bits) whose BOOTS last no more (of those who had some at first, or were recast)");
        GooseBorder x = with("path 2 1 0;goose 1 1 0 0 0;goose 1 1 1 0 0;goose 1 1 2 0 0;goose 1 1 3 0 0;",
            "march 0 0;march 1 0;march 2 0;march 3 0;recast 1 1;recast 0 0;recast 2 0;recast 2 2;home 2 0;fox 0;");
        int[] wants = {0, 0, 2, 6, 6, 4, 5, 5, 1, 5, 5};
        for (int n = 0; n < wants.length; n++) {
            S.due("worn behind " + n, x.state(0, 0, n, 6), wants[n]);
        }
    }

    private static void pathsWentByLast() {
        S.says("Promise 10", "3: the PATH it went by last (NONE; also carried)");
        GooseBorder x = with("path 1 1 0;".repeat(5) + "goose 1 1 0 0 0;goose 1 1 0 0 0;goose 1 1 0 0 0;",
            "march 0 4;home 0 3;carry 0 1 0;home 1 2;rain 1;");
        int[][] wants = {{-1, -1}, {4, -1}, {3, -1}, {0, 0}, {0, 2}, {0, 2}};
        for (int n = 0; n < wants.length; n++) {
            S.due("goose 0 behind " + n, x.goose(0, 0, n, 0, 3), wants[n][0]);
            S.due("goose 1 behind " + n, x.goose(0, 0, n, 1, 3), wants[n][1]);
            S.due("goose 2 behind " + n, x.goose(0, 0, n, 2, 3), NONE);
        }
    }

    private static void numbersOfDeeds() {
        S.says("Promise 8", "1, 2, 3: its numbers (NONE without)");
        String[] lines = {"march 7 4;", "back 6 3;", "home 5 2;", "carry 4 3 2;", "recast 7 60;", "rain 9;", "frost;", "thaw;",
            "fox 3;"};
        int[][] wants = {{7, 4, NONE}, {6, 3, NONE}, {5, 2, NONE}, {4, 3, 2}, {7, 60, NONE}, {9, NONE, NONE}, {NONE, NONE, NONE},
            {NONE, NONE, NONE}, {3, NONE, NONE}};
        for (int kind = 0; kind < lines.length; kind++) {
            GooseBorder x = with("", "carry 1 2 3;" + lines[kind]);
            S.due("kind of " + lines[kind], x.deed(0, 1, 0), kind);
            for (int what = 1; what <= 3; what++) {
                S.due("number " + what + " of " + lines[kind], x.deed(0, 1, what), wants[kind][what - 1]);
            }
            S.due("no fourth", x.deed(0, 1, 4), -2);
        }
    }

    private static void numbersOfTerms() {
        S.says("Promise 13", "1, 2: its numbers (NONE without)");
        String[] lines = {"each 9;", "above 998 97;", "below 0 0;", "odd 99;", "most 0;"};
        int[][] wants = {{9, NONE}, {998, 97}, {0, 0}, {99, NONE}, {0, NONE}};
        for (int kind = 0; kind < lines.length; kind++) {
            GooseBorder x = Teller.told(null, null, "above 5 6;" + lines[kind], null);
            S.due("kind of " + lines[kind], x.term(0, 1, 0), kind);
            for (int what = 1; what <= 2; what++) {
                S.due("number " + what + " of " + lines[kind], x.term(0, 1, what), wants[kind][what - 1]);
            }
            S.due("no third", x.term(0, 1, 3), -2);
        }
    }
}
