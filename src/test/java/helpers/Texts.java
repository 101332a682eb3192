import java.util.ArrayList;
import java.util.List;
import java.util.Random;
import java.util.regex.Matcher;
import java.util.regex.Pattern;

/** Random texts, and what faults texts have, by patterns and written apart from the class. */
final class Texts {
    static final String[][] WORDS = {
        {"path", "goose", "cap"},
        {"march", "back", "home", "carry", "recast", "rain", "frost", "thaw", "fox"},
        {"each", "above", "below", "odd", "most"},
        {"left"}
    };
    private static final Pattern TOKEN = Pattern.compile("[a-z]+|[0-9]+|;");
    private static final int[] MOST = {0, 24, 8, 5};

    private Texts() {
    }

    static int[][] bounds(String word) {
        return switch (word) {
            case "path" -> new int[][] {{1, 20}, {0, 9}, {0, 9}};
            case "goose" -> new int[][] {{0, 4}, {0, 4}, {0, 60}, {0, 1}, {0, 99}};
            case "march", "back", "home" -> new int[][] {{0, 7}, {0, 4}};
            case "carry" -> new int[][] {{0, 7}, {0, 7}, {0, 4}};
            case "recast" -> new int[][] {{0, 7}, {0, 60}};
            case "rain" -> new int[][] {{0, 10}};
            case "fox" -> new int[][] {{0, 4}};
            case "each" -> new int[][] {{0, 9}};
            case "above", "below" -> new int[][] {{0, 999}, {0, 99}};
            case "odd" -> new int[][] {{0, 99}};
            case "cap", "most" -> new int[][] {{0, 999}};
            case "left" -> new int[][] {{0, 4}, {0, 999}};
            default -> new int[0][];
        };
    }

    record Read(int fault, int place, List<Model.Line> lines) {
    }

    /** Two goes over the text: first whether it goes on, then what its numbers and lines are. */
    static Read read(int sort, String text) {
        List<String> tokens = new ArrayList<>();
        List<Integer> places = new ArrayList<>();
        int at = 0;
        int bad = -1;
        while (at < text.length() && bad < 0) {
            char c = text.charAt(at);
            Matcher m = TOKEN.matcher(text).region(at, text.length());
            if (c == ' ' || c == '\n') {
                at++;
            } else if (m.lookingAt() && !(Character.isDigit(c) && m.group().length() > 3)) {
                tokens.add(m.group());
                places.add(at);
                at = m.end();
            } else {
                bad = at;
            }
        }
        places.add(bad >= 0 ? bad : text.length());
        List<Model.Line> lines = new ArrayList<>();
        List<List<Integer>> where = new ArrayList<>();
        int i = 0;
        while (i < tokens.size()) {
            String word = tokens.get(i);
            if (!List.of(WORDS[sort]).contains(word)) {
                return new Read(1, places.get(i), null);
            }
            List<Integer> numbers = new ArrayList<>();
            List<Integer> numberPlaces = new ArrayList<>();
            numberPlaces.add(places.get(i));
            int many = bounds(word).length;
            for (int k = 1; k <= many + 1; k++) {
                boolean there = i + k < tokens.size();
                String token = there ? tokens.get(i + k) : "";
                boolean right = k > many ? token.equals(";") : token.matches("[0-9]{1,3}");
                if (!right) {
                    return new Read(1, places.get(i + k), null);
                }
                if (k <= many) {
                    numbers.add(Integer.parseInt(token));
                    numberPlaces.add(places.get(i + k));
                }
            }
            lines.add(new Model.Line(word, numbers));
            where.add(numberPlaces);
            i += many + 2;
        }
        return bad >= 0 ? new Read(1, bad, null) : judged(sort, text, lines, where);
    }

    private static Read judged(int sort, String text, List<Model.Line> lines, List<List<Integer>> where) {
        int paths = 0;
        int geese = 0;
        List<Integer> seen = new ArrayList<>();
        boolean twice = false;
        for (int l = 0; l < lines.size(); l++) {
            Model.Line line = lines.get(l);
            paths += line.word().equals("path") ? 1 : 0;
            geese += line.word().equals("goose") ? 1 : 0;
            boolean many = sort == 0
                ? line.word().equals("path") && paths > 5 || line.word().equals("goose") && geese > 8
                : l >= MOST[sort];
            if (many) {
                return new Read(3, where.get(l).get(0), null);
            }
            int[][] bounds = bounds(line.word());
            for (int k = 0; k < bounds.length; k++) {
                int n = line.n(k);
                boolean itself = line.word().equals("carry") && k == 1 && n == line.n(0);
                if (n < bounds[k][0] || n > bounds[k][1] || itself) {
                    return new Read(2, where.get(l).get(k + 1), null);
                }
            }
            if (sort == 3) {
                twice |= seen.contains(line.n(0));
                seen.add(line.n(0));
            }
        }
        return twice ? new Read(4, text.length(), null) : new Read(0, -1, lines);
    }

    static List<Model.Line> lines(int sort, String text) {
        return read(sort, text).lines();
    }

    static String border(Random r, int paths, int geese) {
        StringBuilder s = new StringBuilder();
        int longest = r.nextInt(3) == 0 ? 20 : 1 + r.nextInt(6);
        for (int p = 0; p < paths; p++) {
            s.append("path ").append(1 + r.nextInt(longest)).append(' ').append(r.nextInt(10));
            s.append(' ').append(r.nextInt(10)).append(";");
        }
        int boots = r.nextInt(2) == 0 ? 61 : 8;
        for (int g = 0; g < geese; g++) {
            s.append("goose ").append(r.nextInt(5)).append(' ').append(r.nextInt(5)).append(' ');
            s.append(r.nextBoolean() ? r.nextInt(boots) : 0).append(' ').append(r.nextInt(2)).append(' ');
            s.append(r.nextInt(100)).append(";");
        }
        if (r.nextInt(3) > 0) {
            s.append("cap ").append(r.nextInt(1000)).append(";");
        }
        return s.toString();
    }

    /** Mostly deeds that can be, so that nights go on for a while. */
    static String night(Random r, Model.Border b, int deeds) {
        StringBuilder s = new StringBuilder();
        Model.State state = new Model.State(b);
        for (int k = 0; k < deeds; k++) {
            String line = "";
            for (int t = 0; t < 30; t++) {
                line = randomLine(r, WORDS[1][r.nextInt(9)]);
                if (state.deed(lines(1, line).get(0), true) || r.nextInt(60) == 0) {
                    break;
                }
            }
            s.append(line);
        }
        return s.toString();
    }

    static String randomLine(Random r, String word) {
        while (true) {
            StringBuilder s = new StringBuilder(word);
            int[][] bounds = bounds(word);
            for (int[] bound : bounds) {
                int n = bound[0] + r.nextInt(bound[1] - bound[0] + 1);
                s.append(' ').append(bound[1] > 60 && r.nextBoolean() ? n % 60 : n);
            }
            s.append(';');
            String[] parts = s.toString().split("[ ;]");
            if (!word.equals("carry") || !parts[1].equals(parts[2])) {
                return s.toString();
            }
        }
    }

    static String law(Random r) {
        StringBuilder s = new StringBuilder();
        int terms = r.nextInt(9);
        for (int k = 0; k < terms; k++) {
            s.append(randomLine(r, WORDS[2][r.nextInt(5)]));
        }
        return s.toString();
    }

    /** Often what some geese really leave. */
    static String dawn(Random r, Model.Border b) {
        StringBuilder s = new StringBuilder();
        int[] by = new int[b.geese.size()];
        for (int g = 0; g < by.length; g++) {
            by[g] = r.nextInt(6) - 1;
        }
        boolean real = r.nextInt(5) > 0;
        for (int p = 0; p < 5; p++) {
            int sum = p < b.paths.size() ? Model.tallyOf(b, by, p) : r.nextInt(4) / 3;
            int some = real ? sum : r.nextInt(60);
            if (r.nextInt(4) > 0 && some <= 999) {
                s.append("left ").append(p).append(' ').append(some).append("; ");
            }
        }
        return s.toString();
    }
}
