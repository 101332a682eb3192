import java.util.function.ToIntFunction;

/** The bounds of what texts may hold, and the faults with their places, sentence by sentence. */
public final class TextBoundsTest {
    private static final Sentences S = new Sentences();
    private static final int NONE = GooseBorder.NONE;
    private static final String[] PATH_WORDS = {"march", "back", "home"};

    public static void main(String[] args) {
        numbersOfPaths();
        numbersOfGeese();
        caps();
        capsThatStrike();
        numbersOfDeeds();
        carriedByItself();
        numbersOfTerms();
        numbersOfSeenOnes();
        manyPaths();
        manyGeese();
        manyDeeds();
        manyTerms();
        manySeenOnes();
        blanks();
        blanksAreNotNeeded();
        words();
        wordsAsLongAsTheyGo();
        wordsOfOtherSorts();
        rowsOfDigits();
        semicolons();
        everyByte();
        placesOfTheEnd();
        fewerAndMoreNumbers();
        faultOneComesFirst();
        firstByPlace();
        spoiltLinesCount();
        seenTwice();
        seenTwiceComesLast();
        S.finish();
    }

    private static void fault(int sort, String text, int fault, int place) {
        GooseBorder x = new GooseBorder();
        S.due("'" + text + "'", Teller.tell(x, sort, NONE, text), fault == 0 ? 0 : NONE);
        S.due("fault of '" + text + "'", x.fault(0), fault);
        S.due("place in '" + text + "'", x.fault(1), place);
        S.due("count after '" + text + "'", x.count(sort), fault == 0 ? 1 : 0);
    }

    private static void fine(int sort, String text) {
        fault(sort, text, 0, NONE);
    }

    /** At # stands each number from low to high, one step outside, and far outside; fine ones are told back. */
    private static void number(int sort, String line, int low, int high, ToIntFunction<GooseBorder> told) {
        int place = line.indexOf('#');
        for (int n = 0; n <= 1001; n++) {
            String text = line.replace("#", String.valueOf(n));
            boolean canBe = n >= low && n <= high;
            fault(sort, text, canBe ? 0 : n > 999 ? 1 : 2, canBe ? NONE : place);
            if (canBe) {
                GooseBorder x = new GooseBorder();
                Teller.tell(x, sort, NONE, text);
                S.due("told by " + text, told.applyAsInt(x), n);
            }
        }
        for (String zeros : new String[] {"00" + low, "000", "0" + high, "0" + (high + 1)}) {
            int n = Integer.parseInt(zeros);
            boolean canBe = n >= low && n <= high && zeros.length() <= 3;
            fault(sort, line.replace("#", zeros), canBe ? 0 : zeros.length() > 3 ? 1 : 2, canBe ? NONE : place);
        }
    }

    private static void numbersOfPaths() {
        S.says("Terms 1", "MILES, 1 .. 20");
        number(0, "path # 0 0;", 1, 20, x -> x.border(0, 10));
        S.says("Terms 1", "a RATE, 0 .. 9");
        number(0, "path 1 # 0;", 0, 9, x -> x.border(0, 20));
        S.says("Terms 1", "the guard's PAD, 0 .. 9");
        number(0, "path 1 0 #;", 0, 9, x -> x.border(0, 30));
    }

    private static void numbersOfGeese() {
        S.says("Terms 1", "TOES of the left, of the right foot, 0 .. 4 each");
        number(0, "goose # 0 0 0 0;", 0, 4, x -> x.border(0, 40));
        number(0, "goose 0 # 0 0 0;", 0, 4, x -> x.border(0, 50));
        S.says("Terms 1", "BOOTS: miles that they last, 0 .. 60");
        number(0, "goose 0 0 # 0 0;", 0, 60, x -> x.border(0, 60));
        S.says("Terms 1", "a LIMP: none (0), or some (1)");
        number(0, "goose 0 0 0 # 0;", 0, 1, x -> x.border(0, 70));
        S.says("Terms 1", "a WORTH, 0 .. 99");
        number(0, "goose 0 0 0 0 #;", 0, 99, x -> x.border(0, 80));
    }

    private static void caps() {
        S.says("Terms 1", "a CAP, 0 .. 999 (none at first)");
        number(0, "cap #;", 0, 999, x -> x.border(0, 2));
        GooseBorder x = Teller.told("path 1 1 1;goose 1 1 1 1 1;", null, null, null);
        S.due("none at first", x.border(0, 2), NONE);
    }

    private static void capsThatStrike() {
        S.says("Terms 1", "Later ones strike, but PATHS, GEESE, DEEDS, TERMS, SEEN ones, which are further ones.");
        GooseBorder x = Teller.told("cap 9;path 1 1 1;cap 8;goose 1 1 1 1 1;cap 0;path 1 1 1;goose 1 1 1 1 1;",
            "frost;frost;", "odd 1;odd 1;", "left 0 0;left 1 0;");
        S.due("the last cap", x.border(0, 2), 0);
        S.due("paths", x.border(0, 0), 2);
        S.due("geese", x.border(0, 1), 2);
        S.due("deeds", x.deed(0, NONE, 0), 2);
        S.due("terms", x.term(0, NONE, 0), 2);
        S.due("seen ones", x.seen(0, NONE, 0), 2);
        fine(0, "cap 1;".repeat(100));
        fault(0, "cap 1;".repeat(99) + "cap;", 1, 597);
    }

    private static void numbersOfDeeds() {
        S.says("Terms 1", "GEESE are 0 .. 7, PATHS 0 .. 4");
        for (String word : PATH_WORDS) {
            number(1, word + " # 0;", 0, 7, x -> x.deed(0, 0, 1));
            number(1, word + " 0 #;", 0, 4, x -> x.deed(0, 0, 2));
        }
        number(1, "recast # 0;", 0, 7, x -> x.deed(0, 0, 1));
        number(1, "carry 3 1 #;", 0, 4, x -> x.deed(0, 0, 3));
        number(1, "fox #;", 0, 4, x -> x.deed(0, 0, 1));
        for (int n : new int[] {0, 1, 6, 7}) {
            fine(1, "carry " + n + " 3 0;");
            fine(1, "carry 3 " + n + " 0;");
        }
        for (int n : new int[] {8, 9, 99, 999}) {
            fault(1, "carry " + n + " 3 0;", 2, 6);
            fault(1, "carry 3 " + n + " 0;", 2, 8);
        }
        S.says("Terms 1", "recast: a GOOSE, its BOOTS from then on");
        number(1, "recast 0 #;", 0, 60, x -> x.deed(0, 0, 2));
        S.says("Terms 1", "rain: tenths, 0 .. 10");
        number(1, "rain #;", 0, 10, x -> x.deed(0, 0, 1));
    }

    private static void carriedByItself() {
        S.says("Terms 1", "of carry the second GOOSE, if it is the first");
        for (int first = 0; first <= 9; first++) {
            for (int second = 0; second <= 9; second++) {
                boolean firstBad = first > 7;
                boolean bad = firstBad || second > 7 || first == second;
                fault(1, "carry " + first + " " + second + " 4;", bad ? 2 : 0, firstBad ? 6 : bad ? 8 : NONE);
            }
        }
        fault(1, "carry 5 05 0;", 2, 8);
        fault(1, "carry 5 5 5;", 2, 8);
        fault(1, "carry 5 4 5;", 2, 10);
        fine(1, "march 3 3;recast 5 5;");
    }

    private static void numbersOfTerms() {
        S.says("Terms 1", "each: pence for each MARK, 0 .. 9");
        number(2, "each #;", 0, 9, x -> x.term(0, 0, 1));
        S.says("Terms 1", "above, below: a number of MARKS, 0 .. 999, pence, 0 .. 99");
        for (String word : new String[] {"above", "below"}) {
            number(2, word + " # 0;", 0, 999, x -> x.term(0, 0, 1));
            number(2, word + " 0 #;", 0, 99, x -> x.term(0, 0, 2));
        }
        S.says("Terms 1", "odd: pence, 0 .. 99");
        number(2, "odd #;", 0, 99, x -> x.term(0, 0, 1));
        S.says("Terms 1", "most: pence, 0 .. 999");
        number(2, "most #;", 0, 999, x -> x.term(0, 0, 1));
    }

    private static void numbersOfSeenOnes() {
        S.says("Terms 1", "a PATH, 0 .. 4, how many MARKS, 0 .. 999");
        number(3, "left # 0;", 0, 4, x -> x.seen(0, 0, 0));
        number(3, "left 0 #;", 0, 999, x -> x.seen(0, 0, 1));
    }

    private static void manyPaths() {
        S.says("Terms 1", "PATHS, at most 5, from 0 on ... 3 a 6th PATH ... at its first token");
        String line = "path 1 1 1;";
        for (int many = 0; many <= 7; many++) {
            fault(0, line.repeat(many), many > 5 ? 3 : 0, many > 5 ? 5 * line.length() : NONE);
        }
        GooseBorder x = Teller.told("path 1 2 3;path 2 2 3;path 3 2 3;path 4 2 3;path 5 2 3;", null, null, null);
        S.due("paths", x.border(0, 0), 5);
        S.due("the first", x.border(0, 10), 1);
        S.due("the last", x.border(0, 14), 5);
        S.due("none behind it", x.border(0, 15), -2);
        fault(0, line.repeat(5) + "goose 0 0 0 0 0; cap 1;\n path 1 1 1;", 3, 80);
    }

    private static void manyGeese() {
        S.says("Terms 1", "GEESE, at most 8, from 0 on ... a 9th GOOSE ... at its first token");
        String line = "goose 1 1 1 1 1;";
        for (int many = 0; many <= 10; many++) {
            fault(0, line.repeat(many), many > 8 ? 3 : 0, many > 8 ? 8 * line.length() : NONE);
        }
        StringBuilder s = new StringBuilder();
        for (int g = 0; g < 8; g++) {
            s.append("goose 0 0 0 0 ").append(g + 1).append(';');
        }
        GooseBorder x = Teller.told(s.toString(), null, null, null);
        S.due("geese", x.border(0, 1), 8);
        S.due("the first", x.border(0, 80), 1);
        S.due("the last", x.border(0, 87), 8);
        S.due("none behind it", x.border(0, 88), -2);
        fine(0, line.repeat(8) + "path 1 1 1;".repeat(5));
        fault(0, line.repeat(8) + "path 1 1 1;".repeat(5) + "\n goose 1 1 1 1 1;", 3, 185);
    }

    private static void manyDeeds() {
        S.says("Terms 1", "A NIGHT has DEEDS, at most 24, from 0 on ... a 25th DEED ... at its first token");
        for (int many = 0; many <= 27; many++) {
            fault(1, "fox 4;".repeat(many), many > 24 ? 3 : 0, many > 24 ? 144 : NONE);
        }
        GooseBorder x = Teller.told(null, "rain 1;" + "thaw;".repeat(22) + "rain 9;", null, null);
        S.due("deeds", x.deed(0, NONE, 0), 24);
        S.due("the first", x.deed(0, 0, 1), 1);
        S.due("the last", x.deed(0, 23, 1), 9);
        S.due("none behind it", x.deed(0, 24, 0), -2);
        for (String line : new String[] {"march 0 0;", "back 0 0;", "home 0 0;", "carry 0 1 0;", "recast 0 0;", "rain 0;",
            "frost;", "thaw;", "fox 0;"}) {
            fine(1, "thaw;".repeat(23) + line);
            fault(1, "thaw;".repeat(24) + line, 3, 120);
        }
    }

    private static void manyTerms() {
        S.says("Terms 1", "A LAW has TERMS, at most 8, from 0 on ... a 9th TERM ... at its first token");
        for (String line : new String[] {"each 0;", "above 0 0;", "below 0 0;", "odd 0;", "most 0;"}) {
            for (int many = 0; many <= 10; many++) {
                fault(2, line.repeat(many), many > 8 ? 3 : 0, many > 8 ? 8 * line.length() : NONE);
            }
        }
        GooseBorder x = Teller.told(null, null, "odd 1;odd 2;odd 3;odd 4;odd 5;odd 6;odd 7;odd 8;", null);
        S.due("terms", x.term(0, NONE, 0), 8);
        S.due("the first", x.term(0, 0, 1), 1);
        S.due("the last", x.term(0, 7, 1), 8);
        S.due("none behind it", x.term(0, 8, 0), -2);
    }

    private static void manySeenOnes() {
        S.says("Terms 1", "A DAWN has SEEN ones, at most 5, from 0 on ... a 6th SEEN one, at its first token");
        StringBuilder s = new StringBuilder();
        for (int many = 0; many <= 7; many++) {
            fault(3, s.toString(), many > 5 ? 3 : 0, many > 5 ? 45 : NONE);
            s.append("left ").append(many % 5).append(' ').append(many).append(';');
        }
        GooseBorder x = Teller.told(null, null, null, "left 4 5;left 3 6;left 2 7;left 1 8;left 0 9;");
        S.due("seen ones", x.seen(0, NONE, 0), 5);
        S.due("the first", x.seen(0, 0, 0), 4);
        S.due("the last", x.seen(0, 4, 0), 0);
        S.due("the last", x.seen(0, 4, 1), 9);
        S.due("none behind it", x.seen(0, 5, 0), -2);
    }

    private static void blanks() {
        S.says("Terms 1", "blanks (10, 32) between");
        for (int b = 0; b < 256; b++) {
            boolean blank = b == 10 || b == 32;
            boolean token = b >= '0' && b <= '9' || b >= 'a' && b <= 'z' || b == ';';
            if (!token) {
                char c = (char) b;
                fault(0, "cap" + c + "7;", blank ? 0 : 1, blank ? NONE : 3);
                fault(0, c + "cap 7;", blank ? 0 : 1, blank ? NONE : 0);
                fault(0, "cap 7" + c + ";", blank ? 0 : 1, blank ? NONE : 5);
                fault(0, "cap 7;" + c, blank ? 0 : 1, blank ? NONE : 6);
                fault(1, "frost" + c + ";", blank ? 0 : 1, blank ? NONE : 5);
            }
        }
        fine(0, "\n \ncap\n\n  7 \n;\n\n");
    }

    private static void blanksAreNotNeeded() {
        S.says("Terms 1", "TOKENS, as long as they go, blanks (10, 32) between");
        GooseBorder x = Teller.told("path20 9 8;cap7;goose1 2 3 1 5;", "march1 2;frost;thaw;", "odd7;", "left4 999;");
        S.due("miles", x.border(0, 10), 20);
        S.due("cap", x.border(0, 2), 7);
        S.due("deeds", x.deed(0, NONE, 0), 3);
        fault(0, "cap 7 7;", 1, 6);
        fault(0, "ca p 7;", 1, 0);
        fault(0, "path 12 3;", 1, 9);
        fine(0, "path 1 2 3;");
        fault(0, "path 123;", 1, 8);
        fault(0, "path 1 23;", 1, 9);
    }

    private static void words() {
        S.says("Terms 1", "words, rows of letters a .. z");
        fault(0, "capa 7;", 1, 0);
        fault(0, "capz 7;", 1, 0);
        fault(0, "cap` 7;", 1, 3);
        fault(0, "cap{ 7;", 1, 3);
        fault(0, "capA7;", 1, 3);
        fault(0, "Cap 7;", 1, 0);
        fault(0, "`cap 7;", 1, 0);
        fault(0, "{cap 7;", 1, 0);
        fault(0, "cap 7a;", 1, 5);
        fault(0, "cap 7z;", 1, 5);
    }

    private static void wordsAsLongAsTheyGo() {
        S.says("Terms 1", "TOKENS, as long as they go");
        for (int sort = 0; sort < 4; sort++) {
            for (String word : Texts.WORDS[sort]) {
                String rest = " 1 0 1 1 1".substring(0, 2 * Texts.bounds(word).length) + ";";
                fine(sort, word + rest);
                fault(sort, word.substring(1) + rest, 1, 0);
                fault(sort, word.substring(0, word.length() - 1) + rest, 1, 0);
                fault(sort, word + word.charAt(0) + rest, 1, 0);
                fault(sort, word + word + rest, 1, 0);
                fault(sort, word.substring(0, 1) + " " + word.substring(1) + rest, 1, 0);
                fault(sort, word + " " + word + rest, 1, word.length() + 1);
                fault(sort, word + rest + " " + word + "s" + rest, 1, word.length() + rest.length() + 1);
                fault(sort, rest, 1, rest.charAt(0) == ' ' ? 1 : 0);
                for (int i = 0; i < word.length(); i++) {
                    for (int step = -1; step <= 1; step += 2) {
                        StringBuilder other = new StringBuilder(word);
                        other.setCharAt(i, (char) (word.charAt(i) + step));
                        fault(sort, other + rest, 1, 0);
                    }
                }
            }
        }
    }

    private static void wordsOfOtherSorts() {
        S.says("Terms 1, words of other sorts", "the first byte or token with which no text goes on");
        for (int sort = 0; sort < 4; sort++) {
            for (int other = 0; other < 4; other++) {
                for (String word : Texts.WORDS[other]) {
                    String rest = " 1 0 1 1 1".substring(0, 2 * Texts.bounds(word).length) + ";";
                    fault(sort, "\n" + word + rest, sort == other ? 0 : 1, sort == other ? NONE : 1);
                }
            }
        }
    }

    private static void rowsOfDigits() {
        S.says("Terms 1", "NUMBERS, 1 to 3 digits ... a longer row of digits is no token");
        fault(0, "cap ;", 1, 4);
        fine(0, "cap 0;");
        fine(0, "cap 00;");
        fine(0, "cap 000;");
        fault(0, "cap 0000;", 1, 4);
        fault(0, "cap 00000;", 1, 4);
        fine(0, "cap 999;");
        fault(0, "cap 1000;", 1, 4);
        fault(0, "cap 0999;", 1, 4);
        fault(0, "cap " + "0".repeat(595) + ";", 1, 4);
        // of 32 bits this row is 7
        fault(0, "cap 4294967303;", 1, 4);
        fault(0, "cap 18446744073709551623;", 1, 4);
        fault(0, "0000", 1, 0);
        fault(0, "000", 1, 0);
        fault(0, "cap 1 0000;", 1, 6);
        fault(0, "cap 1;0000", 1, 6);
        fault(0, "cap 7/;", 1, 5);
        fault(0, "cap 7:;", 1, 5);
        fault(0, "cap 999/;", 1, 7);
        fault(0, "cap 999:;", 1, 7);
        fault(0, "cap 9990;", 1, 4);
        fault(0, "cap 9999;", 1, 4);
        fault(0, "cap -1;", 1, 4);
        fault(0, "cap +1;", 1, 4);
    }

    private static void semicolons() {
        S.says("Terms 1", "; one byte");
        fine(0, "cap 7;");
        fault(0, "cap 7:", 1, 5);
        fault(0, "cap 7<", 1, 5);
        fault(0, "cap 7", 1, 5);
        fault(0, "cap 7;;", 1, 6);
        fault(0, ";cap 7;", 1, 0);
        fault(0, "cap 7 cap 8;", 1, 6);
        fault(1, "frost thaw;", 1, 6);
        fault(1, "frost;;", 1, 6);
        fine(1, "frost;thaw;");
    }

    private static void everyByte() {
        S.says("Terms 1", "1 the first byte or token with which no text goes on");
        for (int b = 0; b < 256; b++) {
            char c = (char) b;
            boolean blank = b == 10 || b == 32;
            boolean digit = b >= '0' && b <= '9';
            for (int sort = 0; sort < 4; sort++) {
                fault(sort, String.valueOf(c), blank ? 0 : 1, blank ? NONE : 0);
            }
            boolean fine = blank || digit;
            fault(0, "cap 7" + c + ";", fine ? 0 : 1, fine ? NONE : b == ';' ? 6 : 5);
            fault(0, "cap 777" + c + ";", blank ? 0 : 1, blank ? NONE : digit ? 4 : b == ';' ? 8 : 7);
        }
    }

    private static void placesOfTheEnd() {
        S.says("Terms 1", "places (a token's first byte; the end's)");
        for (int blanks = 0; blanks < 4; blanks++) {
            fault(0, "path 1 2 3" + " ".repeat(blanks), 1, 10 + blanks);
            fault(0, "path 1 2" + "\n".repeat(blanks), 1, 8 + blanks);
            fault(0, "path" + " ".repeat(blanks), 1, 4 + blanks);
            fault(0, " ".repeat(blanks) + "path 1 2 x", 1, 9 + blanks);
            fault(3, "left 1 1;left 1 1;" + " ".repeat(blanks), 4, 18 + blanks);
            fault(1, " ".repeat(blanks) + "rain" + " ".repeat(blanks) + "11;", 2, 4 + 2 * blanks);
        }
        fault(0, " ".repeat(597) + "cap", 1, 600);
        fault(0, " ".repeat(596) + "cap ", 1, 600);
        fault(0, " ".repeat(595) + "cap 7", 1, 600);
        fault(0, " ".repeat(599) + ";", 1, 599);
        fault(3, "left 1 1;left 1 1;" + " ".repeat(582), 4, 600);
        fault(1, " ".repeat(592) + "rain 11;", 2, 597);
    }

    private static void fewerAndMoreNumbers() {
        S.says("Terms 1", "A BORDER's text ... A NIGHT's text ... A LAW's text ... A DAWN's text");
        for (int sort = 0; sort < 4; sort++) {
            for (String word : Texts.WORDS[sort]) {
                int many = Texts.bounds(word).length;
                for (int told = 0; told <= 6; told++) {
                    String line = word + " 1 0 1 1 1 1".substring(0, 2 * told);
                    // behind too few the ; is wrong, behind too many the first one more
                    int place = told < many ? line.length() : word.length() + 2 * many + 1;
                    fault(sort, line + ";", told == many ? 0 : 1, told == many ? NONE : place);
                    fault(sort, line, 1, told <= many ? line.length() : place);
                }
            }
        }
    }

    private static void faultOneComesFirst() {
        S.says("Terms 1", "If there is none, the first by place");
        fault(0, "path 0 0 0;x", 1, 11);
        fault(0, "path 0 0 0;", 2, 5);
        fault(0, "path 1 1 1;".repeat(6) + "x", 1, 66);
        fault(0, "path 1 1 1;".repeat(6), 3, 55);
        fault(3, "left 1 1;left 1 1;x", 1, 18);
        fault(3, "left 1 1;left 1 1;", 4, 18);
        fault(0, "path 0 0", 1, 8);
        fault(0, "path 99 0000;", 1, 8);
        fault(1, "carry 1 1", 1, 9);
        fault(0, "path 1 1 1;".repeat(5) + "path", 1, 59);
        fault(0, "path 1 1 1;".repeat(5) + "path 0 99 99", 1, 67);
    }

    private static void firstByPlace() {
        S.says("Terms 1", "the first by place, of one place the least");
        String five = "path 1 1 1;".repeat(5);
        fault(0, "path 1 1 1;".repeat(4) + "path 1 1 10;path 1 1 1;", 2, 53);
        fault(0, five + "path 1 1 10;", 3, 55);
        fault(0, five + "goose 5 1 1 1 1;path 1 1 1;", 2, 61);
        fault(0, five + "path 1 1 1;goose 5 1 1 1 1;", 3, 55);
        fault(0, "path 0 10 10;path 0 1 1;", 2, 5);
        fault(0, "path 1 10 10;", 2, 7);
        fault(0, "goose 1 1 61 2 100;", 2, 10);
        fault(0, five + "goose 1 1 1 1 1;".repeat(8) + "goose 1 1 1 1 1;path 1 1 1;", 3, 183);
        fault(1, "thaw;".repeat(24) + "rain 11;", 3, 120);
        fault(1, "thaw;".repeat(23) + "rain 11;thaw;", 2, 120);
        fault(2, "odd 1;".repeat(8) + "odd 100;", 3, 48);
        fault(2, "odd 1;".repeat(7) + "odd 100;odd 1;", 2, 46);
        fault(3, "left 5 1;left 5 1;", 2, 5);
    }

    private static void spoiltLinesCount() {
        S.says("Terms 1", "a line with such a NUMBER tells its PATH, GOOSE, DEED, TERM, SEEN one all the same");
        // whether a spoilt line counts is hidden by its own fault, which comes first: only one too many shows itself
        fault(0, "path 1 1 1;".repeat(4) + "path 1 1 1;path 0 1 1;", 3, 55);
        fault(0, "path 1 1 1;".repeat(4) + "path 0 1 1;path 1 1 1;", 2, 49);
        fault(0, "goose 1 1 1 1 1;".repeat(8) + "goose 5 1 1 1 1;", 3, 128);
        fault(1, "thaw;".repeat(24) + "fox 5;", 3, 120);
        fault(2, "odd 1;".repeat(8) + "each 10;", 3, 48);
        fault(3, "left 0 0;left 1 0;left 2 0;left 3 0;left 4 0;left 5 0;", 3, 45);
        GooseBorder x = Teller.told("cap 1;", null, null, null);
        S.due("a spoilt text", Teller.tell(x, 0, 0, "cap 2;path 0 1 1;"), NONE);
        S.due("tells nothing", x.border(0, 0), 0);
        S.due("tells nothing", x.border(0, 2), 1);
    }

    private static void seenTwice() {
        S.says("Terms 1", "at the end's place: 4 of a DAWN a PATH that was SEEN twice");
        for (int p = 0; p < 5; p++) {
            for (int q = 0; q < 5; q++) {
                String text = "left " + p + " 1;left " + q + " 2;";
                fault(3, text, p == q ? 4 : 0, p == q ? 18 : NONE);
            }
        }
        fault(3, "left 0 0;left 1 0;left 2 0;left 3 0;left 0 0;", 4, 45);
        fault(3, "left 0 0;left 1 0;left 2 0;left 3 0;left 3 0;", 4, 45);
        fine(3, "left 0 0;left 1 0;left 2 0;left 3 0;left 4 0;");
        fault(3, "left 2 5;left 2 5;left 2 5;", 4, 27);
        fault(3, "left 02 5;left 2 5;", 4, 19);
    }

    private static void seenTwiceComesLast() {
        S.says("Terms 1", "If there is none of these");
        fault(3, "left 1 1;left 1 1;left 9 9;", 2, 23);
        fault(3, "left 1 1;left 1 1;left 1 1;left 1 1;left 1 1;left 1 1;", 3, 45);
        fault(3, "left 1 1;left 1 1;left 1 1;left 1 1;left 1 1;", 4, 45);
        fault(3, "left 1 1;left 1 1;left", 1, 22);
    }
}
