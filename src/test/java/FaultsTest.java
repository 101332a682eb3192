import java.util.Random;

/** Random texts, right ones and spoilt ones: the fault and its place against a second reading. */
public final class FaultsTest {
    private static final String SIGNS = "  \n\n;;0123456789abcmoxyz\t\0A_-~";
    private static final int[] FAULTS = new int[5];

    public static void main(String[] args) {
        Check check = new Check();
        for (int seed = 0; seed < 40000 && check.wrongOnes() == 0; seed++) {
            Random r = new Random(seed);
            int sort = r.nextInt(4);
            String text = some(r, sort);
            Texts.Read read = Texts.read(sort, text);
            FAULTS[read.fault()]++;
            GooseBorder x = new GooseBorder();
            String name = "'" + text + "' of sort " + sort;
            check.due(name, Teller.tell(x, sort, -1, text), read.fault() == 0 ? 0 : -1);
            check.due("fault of " + name, x.fault(0), read.fault());
            check.due("place in " + name, x.fault(1), read.place());
            check.due("count after " + name, x.count(sort), read.fault() == 0 ? 1 : 0);
            check.due("tape after " + name, x.end(1), -1);
        }
        for (int fault = 0; fault < 5; fault++) {
            check.due("fault " + fault + " is tried", FAULTS[fault] > 100, true);
        }
        check.finish();
    }

    private static String some(Random r, int sort) {
        StringBuilder s = new StringBuilder();
        int lines = r.nextInt(sort == 1 ? 40 : 14);
        boolean wild = r.nextInt(3) == 0;
        for (int k = 0; k < lines; k++) {
            String[] words = Texts.WORDS[sort];
            String line = Texts.randomLine(r, words[r.nextInt(words.length)]);
            if (wild && r.nextInt(6) == 0) {
                line = line.replaceAll("[0-9]+", String.valueOf(r.nextInt(r.nextBoolean() ? 1000 : 10)));
            }
            if (s.length() + line.length() < 560) {
                s.append(line.replace(" ", r.nextInt(9) == 0 ? " \n" : " ")).append(r.nextBoolean() ? " " : "");
            }
        }
        if (s.length() > 0 && r.nextInt(5) == 0) {
            spoil(r, s);
        }
        return s.toString();
    }

    private static void spoil(Random r, StringBuilder s) {
        int at = r.nextInt(s.length());
        switch (r.nextInt(4)) {
            case 0 -> s.deleteCharAt(at);
            case 1 -> s.insert(at, SIGNS.charAt(r.nextInt(SIGNS.length())));
            case 2 -> s.setCharAt(at, (char) r.nextInt(256));
            default -> s.setLength(at);
        }
    }
}
